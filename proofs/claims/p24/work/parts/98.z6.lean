/-! THE CLASS READS: its reader's letters and words, by the same text X of N letters. tp: the cell that the text lies in. -/
def y_vw (SH : Nat → Nat × Nat) (FI : Nat → Nat → Int32) (FR : Nat → Nat → Option Nat) (tp : Nat) (X : Nat → Int) (N : Nat) : Prop := (FI 111 6).toInt = N ∧ N ≤ 1000 ∧ FR 111 5 = some tp ∧ (SH tp).2 = 1000 ∧ tp ≠ 111 ∧ tp ≠ 112 ∧ tp ≠ 114 ∧ tp ≠ 115 ∧ (∀ i, i < N → (FI tp i).toInt = X i ∧ 0 ≤ X i ∧ X i ≤ 255)
section YR
variable {X : Nat → Int} {N tp : Nat} {n sl : Nat} {SH : Nat → Nat × Nat} {FI : Nat → Nat → Int32} {FL : Nat → Nat → Int64} {FR : Nat → Nat → Option Nat} {s : hS}
theorem y_fl {k : Nat} {x : Int32} (h : y_vw SH FI FR tp X N) (hk : k ≠ 6) : y_vw SH (h_up FI 111 k x) FR tp X N := ⟨by rw [h_up_x (by rintro ⟨-, e⟩; exact hk e.symm)]; exact h.1, h.2.1, h.2.2.1, h.2.2.2.1, h.2.2.2.2.1, h.2.2.2.2.2.1, h.2.2.2.2.2.2.1, h.2.2.2.2.2.2.2.1, by rw [h_up_nc h.2.2.2.2.1]; exact h.2.2.2.2.2.2.2.2⟩
theorem y_sg_rg (h : y_vw SH FI FR tp X N) (i : Nat) : -1 ≤ t_sg X N i ∧ t_sg X N i ≤ 255 := by
  unfold t_sg
  by_cases h1 : i < N
  · rw [if_pos h1]
    have := h.2.2.2.2.2.2.2.2 i h1
    omega
  · rw [if_neg h1]; omega
theorem y_letter {a v : Int32} {i : Nat} (h : RX7_letter a n sl SH FI FL FR v s) (hy : y_vw SH FI FR tp X N) (ha : a.toInt = i) : v.toInt = t_sg X N i ∧ s = (n, sl, SH, FI, FL, FR) := by
  have hN := hy.2.1
  have cm1 : ((-1 : Int32)).toInt = -1 := by decide
  have ht := hy.2.2.1
  have hz := hy.2.2.2.1
  have hz2 : (Int32.ofNat 1000).toInt = 1000 := by decide
  unfold t_sg
  rcases h with ⟨h1, h⟩ | ⟨h1, h⟩
  · omega
  · rcases h with ⟨h2, h⟩ | ⟨h2, h⟩
    · rw [ha, hy.1] at h2
      obtain ⟨c3, e3, h⟩ := h
      rw [ht] at e3
      cases e3
      rcases h with ⟨h3, h⟩ | ⟨h3, h⟩
      · obtain ⟨c5, e5, -, rfl, rfl⟩ := h
        rw [ht] at e5
        cases e5
        rw [if_pos (by omega), show a.toInt.toNat = i by omega]
        exact ⟨(hy.2.2.2.2.2.2.2.2 i (by omega)).1, rfl⟩
      · rw [hz, hz2] at h3
        omega
    · rw [ha, hy.1] at h2
      obtain ⟨rfl, rfl⟩ := h
      rw [if_neg (by omega)]
      exact ⟨cm1, rfl⟩
/-- the value of a row of letters' numbers, the last one first -/
def t_tv : List Int → Int
  | [] => 0
  | d :: l => 37 * t_tv l + d
theorem t_tv_nn : ∀ (l : List Int), (∀ d, d ∈ l → 1 ≤ d ∧ d ≤ 36) → 0 ≤ t_tv l
  | [], _ => Int.le_refl 0
  | d :: l, h => by
    have h1 := t_tv_nn l (fun x hx => h x (List.mem_cons_of_mem _ hx))
    have h2 := h d (by simp)
    rw [t_tv]
    omega
theorem t_tv_inj : ∀ (l m : List Int), (∀ d, d ∈ l → 1 ≤ d ∧ d ≤ 36) → (∀ d, d ∈ m → 1 ≤ d ∧ d ≤ 36) → t_tv l = t_tv m → l = m
  | [], [], _, _, _ => rfl
  | [], d :: m, _, hm, e => by
    exfalso
    have h1 := t_tv_nn m (fun x hx => hm x (List.mem_cons_of_mem _ hx))
    have h2 := hm d (by simp)
    rw [t_tv, t_tv] at e
    omega
  | c :: l, [], hl, _, e => by
    exfalso
    have h1 := t_tv_nn l (fun x hx => hl x (List.mem_cons_of_mem _ hx))
    have h2 := hl c (by simp)
    rw [t_tv, t_tv] at e
    omega
  | c :: l, d :: m, hl, hm, e => by
    have h1 := hl c (by simp)
    have h2 := hm d (by simp)
    rw [t_tv, t_tv] at e
    have e1 : c = d := by omega
    have e2 : t_tv l = t_tv m := by omega
    rw [e1, t_tv_inj l m (fun x hx => hl x (List.mem_cons_of_mem _ hx)) (fun x hx => hm x (List.mem_cons_of_mem _ hx)) e2]
def t_dl (X : Nat → Int) (N i : Nat) : Nat → List Int
  | 0 => []
  | m + 1 => t_cd (t_sg X N (i + m)) :: t_dl X N i m
theorem t_wv_tv {X : Nat → Int} {N i : Nat} : ∀ m, t_wv X N i m = t_tv (t_dl X N i m)
  | 0 => rfl
  | m + 1 => by rw [t_wv, t_wv_tv m, t_dl, t_tv]
theorem t_dl_len {X : Nat → Int} {N i : Nat} : ∀ m, (t_dl X N i m).length = m
  | 0 => rfl
  | m + 1 => by rw [t_dl, List.length_cons, t_dl_len m]
theorem t_dl_get {X : Nat → Int} {N i : Nat} : ∀ (m q : Nat), q < m → (t_dl X N i m)[q]? = some (t_cd (t_sg X N (i + (m - 1 - q))))
  | 0, q, h => by omega
  | m + 1, 0, h => by rw [t_dl, List.getElem?_cons_zero]; rfl
  | m + 1, q + 1, h => by
    rw [t_dl, List.getElem?_cons_succ, t_dl_get m q (by omega), show m + 1 - 1 - (q + 1) = m - 1 - q by omega]
/-- the words' letters as numbers -/
def t_wl (k : Nat) : List Int := ((x_strB.getD k []).map (fun c => t_cd c.toInt)).reverse
theorem t_wl_v : t_tv (t_wl 0) = 24834 ∧ t_tv (t_wl 1) = 41299405 ∧ t_tv (t_wl 2) = 5042231 ∧ t_tv (t_wl 3) = 730200 ∧ t_tv (t_wl 4) = 224 ∧ t_tv (t_wl 5) = 4330 ∧ t_tv (t_wl 6) = 20619 ∧ t_tv (t_wl 7) = 27843 ∧ t_tv (t_wl 8) = 5831 ∧ t_tv (t_wl 9) = 18356 := by decide
theorem t_wl_rg : ∀ k : Fin 10, ∀ d, d ∈ t_wl k.val → 1 ≤ d ∧ d ≤ 36 := by decide
theorem t_wl_len : ∀ k : Fin 10, (t_wl k.val).length = x_strN.getD k.val 0 ∧ (x_strB.getD k.val []).length = x_strN.getD k.val 0 ∧ x_strN.getD k.val 0 ≤ 5 := by decide
theorem t_wl_sm : ∀ k : Fin 10, ∀ c, c ∈ x_strB.getD k.val [] → 97 ≤ c.toInt ∧ c.toInt ≤ 122 := by decide
theorem t_wd_k (k : Fin 10) (v : Int) : t_wd v = k.val ↔ v = t_tv (t_wl k.val) := by
  obtain ⟨v0, v1, v2, v3, v4, v5, v6, v7, v8, v9⟩ := t_wl_v
  unfold t_wd
  match k with
  | ⟨0, _⟩ => show _ = (0 : Int) ↔ v = t_tv (t_wl 0); rw [v0]; repeat' split; all_goals omega
  | ⟨1, _⟩ => show _ = (1 : Int) ↔ v = t_tv (t_wl 1); rw [v1]; repeat' split; all_goals omega
  | ⟨2, _⟩ => show _ = (2 : Int) ↔ v = t_tv (t_wl 2); rw [v2]; repeat' split; all_goals omega
  | ⟨3, _⟩ => show _ = (3 : Int) ↔ v = t_tv (t_wl 3); rw [v3]; repeat' split; all_goals omega
  | ⟨4, _⟩ => show _ = (4 : Int) ↔ v = t_tv (t_wl 4); rw [v4]; repeat' split; all_goals omega
  | ⟨5, _⟩ => show _ = (5 : Int) ↔ v = t_tv (t_wl 5); rw [v5]; repeat' split; all_goals omega
  | ⟨6, _⟩ => show _ = (6 : Int) ↔ v = t_tv (t_wl 6); rw [v6]; repeat' split; all_goals omega
  | ⟨7, _⟩ => show _ = (7 : Int) ↔ v = t_tv (t_wl 7); rw [v7]; repeat' split; all_goals omega
  | ⟨8, _⟩ => show _ = (8 : Int) ↔ v = t_tv (t_wl 8); rw [v8]; repeat' split; all_goals omega
  | ⟨9, _⟩ => show _ = (9 : Int) ↔ v = t_tv (t_wl 9); rw [v9]; repeat' split; all_goals omega
theorem t_cd_inj {a b : Int} (ha : t_al a = true) (hb : t_al b = true) (h : t_cd a = t_cd b) : a = b := by
  have h1 : (97 ≤ a ∧ a ≤ 122) ∨ (48 ≤ a ∧ a ≤ 57) := by simpa [t_al, t_sm, t_dg] using ha
  have h2 : (97 ≤ b ∧ b ≤ 122) ∨ (48 ≤ b ∧ b ≤ 57) := by simpa [t_al, t_sm, t_dg] using hb
  unfold t_cd at h
  have e1 : t_sm a = decide (97 ≤ a ∧ a ≤ 122) := rfl
  have e2 : t_sm b = decide (97 ≤ b ∧ b ≤ 122) := rfl
  rw [e1, e2] at h
  simp only [decide_eq_true_eq] at h
  split at h <;> split at h <;> omega
/-- the letters at p are those of the k-th word -/
def t_is (X : Nat → Int) (N p m k : Nat) : Prop := m = x_strN.getD k 0 ∧ ∀ j, j < m → t_sg X N (p + j) = ((x_strB.getD k []).getD j 0).toInt
theorem t_is_wd {p m : Nat} (k : Fin 10) (hal : ∀ j, j < m → t_al (t_sg X N (p + j)) = true) : t_is X N p m k.val ↔ t_wd (t_wv X N p m) = k.val := by
  have hl := t_wl_len k
  rw [t_wd_k, t_wv_tv]
  have hx : ∀ d, d ∈ t_dl X N p m → 1 ≤ d ∧ d ≤ 36 := by
    intro d hd
    obtain ⟨q, hq⟩ := List.mem_iff_getElem?.mp hd
    have hq2 := (List.getElem?_eq_some_iff.mp hq).1
    rw [t_dl_len] at hq2
    rw [t_dl_get m q hq2] at hq
    cases hq
    exact t_cd_rg (hal _ (by omega))
  have gd : ∀ (l : List Int32) (q : Nat) (h : q < l.length), l.getD q 0 = l[q] := fun l q h => by rw [List.getD_eq_getElem?_getD, List.getElem?_eq_getElem h, Option.getD_some]
  have wl : ∀ q, q < x_strN.getD k.val 0 → (t_wl k.val)[q]? = some (t_cd ((x_strB.getD k.val []).getD (x_strN.getD k.val 0 - 1 - q) 0).toInt) := by
    intro q hq
    have hq2 : x_strN.getD k.val 0 - 1 - q < (x_strB.getD k.val []).length := by omega
    unfold t_wl
    rw [List.getElem?_reverse (by rw [List.length_map]; omega), List.length_map, hl.2.1, List.getElem?_map, List.getElem?_eq_getElem hq2, Option.map_some, gd _ _ hq2]
  constructor
  · rintro ⟨h1, h2⟩
    congr 1
    apply List.ext_getElem?
    intro q
    rcases Nat.lt_or_ge q m with hq | hq
    · rw [t_dl_get m q hq, wl q (by omega), h2 (m - 1 - q) (by omega), h1]
    · rw [List.getElem?_eq_none (by rw [t_dl_len]; exact hq), List.getElem?_eq_none (by rw [hl.1]; omega)]
  · intro h
    have e := t_tv_inj _ _ hx (t_wl_rg k) h
    have e1 : m = x_strN.getD k.val 0 := by
      have := congrArg List.length e
      rw [t_dl_len, hl.1] at this
      exact this
    refine ⟨e1, fun j hj => ?_⟩
    have e2 := congrArg (fun l => l[m - 1 - j]?) e
    try dsimp only at e2
    rw [t_dl_get m _ (by omega), wl _ (by omega)] at e2
    have e3 := Option.some.inj e2
    rw [show m - 1 - (m - 1 - j) = j by omega, show x_strN.getD k.val 0 - 1 - (m - 1 - j) = j by omega] at e3
    refine t_cd_inj (hal j hj) ?_ e3
    have hj2 : j < (x_strB.getD k.val []).length := by omega
    have := t_wl_sm k _ (List.getElem_mem hj2)
    rw [gd _ _ hj2]
    generalize (x_strB.getD k.val [])[j].toInt = z at this ⊢
    unfold t_al t_sm
    rw [decide_eq_true this, Bool.true_or]
theorem y_len {k : Fin 11} : (fJ0_length_8abf5 k SH FI FL FR).toInt = x_strN.getD k.val 0 := by
  have : ∀ k : Fin 11, ((Int32.ofNat (x_strN.getD k.val 0)) >>> ((0 : Int32) &&& 31)).toInt = x_strN.getD k.val 0 := by decide
  exact this k
theorem y_char {k : Fin 11} {a v : Int32} {j : Nat} (h : RJ0_charAt_5068e k a n sl SH FI FL FR v s) (ha : a.toInt = j) : j < x_strN.getD k.val 0 ∧ v.toInt = ((x_strB.getD k.val []).getD j 0).toInt ∧ s = (n, sl, SH, FI, FL, FR) := by
  rcases h with ⟨h1, h⟩ | ⟨h1, h⟩
  · exact h.elim
  · obtain ⟨v2, n2, sl2, SH2, FI2, FL2, FR2, hc, rfl, rfl⟩ := h
    obtain ⟨v3, n3, sl3, SH3, FI3, FL3, FR3, hd, hp, rfl, h⟩ := hc
    cases h
    obtain ⟨v4, n4, sl4, SH4, FI4, FL4, FR4, he, -, h⟩ := hd
    cases h
    rcases he with ⟨h2, he⟩ | ⟨h2, he⟩
    · exact he.elim
    · rcases he with ⟨h3, he⟩ | ⟨h3, he⟩
      · obtain ⟨-, h⟩ := he
        cases h
        have hj : j < x_strN.getD k.val 0 := by
          have := hp.2
          omega
        refine ⟨hj, ?_, rfl⟩
        rw [show a.toInt.toNat = j by omega]
        have key : ∀ k : Fin 11, ∀ j : Fin 22, ((((x_strB.getD k.val []).getD j.val 0) &&& (255 : Int32)).toUInt32 % 65536).toInt32.toInt = ((x_strB.getD k.val []).getD j.val 0).toInt := by decide
        have hn : x_strN.getD k.val 0 ≤ 22 := by
          have : ∀ k : Fin 11, x_strN.getD k.val 0 ≤ 22 := by decide
          exact this k
        exact key k ⟨j, by omega⟩
      · exact he.elim
theorem y_isWord_G {k : Fin 11} {p m : Nat} (hm : m = x_strN.getD k.val 0) (hp : p + m ≤ 2000) : ∀ (g : Nat) (l2 : Int32) (v : Int32) (s : hS) (j : Nat), GX7_isWord_20 k g l2 n sl SH FI FL FR v s → y_vw SH FI FR tp X N → (FI 111 7).toInt = p → l2.toInt = j → j ≤ m → s = (n, sl, SH, FI, FL, FR) ∧ (v.toInt = 0 ∨ v.toInt = 1) ∧ (v.toInt = 1 ↔ ∀ i, j ≤ i → i < m → t_sg X N (p + i) = ((x_strB.getD k.val []).getD i 0).toInt) := by
  intro g
  induction g with
  | zero => intro l2 v s j h; exact h.elim
  | succ g ih =>
    intro l2 v s j h hy h7 hl hj
    rcases h with ⟨h1, h⟩ | ⟨h1, h⟩
    · rw [hl, y_len] at h1
      obtain ⟨v2, n2, sl2, SH2, FI2, FL2, FR2, hc, v3, n3, sl3, SH3, FI3, FL3, FR3, hd, h⟩ := h
      obtain ⟨q1, q2⟩ := y_letter (i := p + j) hc hy (by rw [i_add h7 hl (by omega) (by omega)]; omega)
      cases q2
      obtain ⟨r1, r2, r3⟩ := y_char (j := j) hd hl
      cases r3
      rw [q1, r2] at h
      rcases h with ⟨h2, h⟩ | ⟨h2, h⟩
      · obtain ⟨w1, w2, w3⟩ := ih (l2 + 1) v s (j + 1) h hy h7 (by rw [i_add hl (by decide : ((1 : Int32)).toInt = 1) (by omega) (by omega)]; omega) (by omega)
        refine ⟨w1, w2, w3.trans ⟨fun a i b c => ?_, fun a i b c => a i (by omega) c⟩⟩
        by_cases e : i = j
        · subst e; exact h2
        · exact a i (by omega) c
      · obtain ⟨rfl, rfl⟩ := h
        exact ⟨rfl, Or.inl (by decide), fun e => absurd e (by decide), fun a => absurd (a j (Nat.le_refl _) (by omega)) h2⟩
    · rw [hl, y_len] at h1
      obtain ⟨rfl, rfl⟩ := h
      exact ⟨rfl, Or.inr (by decide), fun _ i a b => by omega, fun _ => by decide⟩
theorem y_isWord {k : Fin 11} {v : Int32} {p m : Nat} (h : RX7_isWord k n sl SH FI FL FR v s) (hy : y_vw SH FI FR tp X N) (h7 : (FI 111 7).toInt = p) (h8 : (FI 111 8).toInt = ((p + m : Nat) : Int)) (hm : m ≤ 8) (hp : p ≤ 1000) : s = (n, sl, SH, FI, FL, FR) ∧ (v.toInt = 0 ∨ v.toInt = 1) ∧ (v.toInt = 1 ↔ t_is X N p m k.val) := by
  have e := i_sub h8 h7 (by omega) (by omega)
  rcases h with ⟨h1, h⟩ | ⟨h1, h⟩
  · rw [e, y_len] at h1
    obtain ⟨g, h⟩ := h
    obtain ⟨q1, q2, q3⟩ := y_isWord_G (k := k) (p := p) (m := m) (by omega) (by omega) g 0 v s 0 h hy h7 (by decide) (by omega)
    exact ⟨q1, q2, q3.trans ⟨fun a => ⟨by omega, fun j hj => a j (by omega) hj⟩, fun a i _ hi => a.2 i hi⟩⟩
  · rw [e, y_len] at h1
    obtain ⟨rfl, rfl⟩ := h
    exact ⟨rfl, Or.inl (by decide), fun e => absurd e (by decide), fun a => absurd a.1 (by omega)⟩
end YR
