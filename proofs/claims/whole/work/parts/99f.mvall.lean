/-! order's value: the reference, all of it -/
def MVq (g : Nat → Int32) : OQ := fun l d _ R E => (d ≤ 4 ∧ 1 ≤ R.length) ∧ ∀ (t : HS) (N i : Nat), t.1 121 0 = I N → N ≤ 1000 → i + R.length ≤ N → (∀ j, j < R.length → t.1 122 (i + j) = R.getD j 0) → (∀ k, k < 4 → t.1 134 (k + 1) = g k) →
  (l = 0 → ∃ t', (∀ K f, ∃ e, 100 + d ≤ e ∧ f_X12_worked_l14 0 K (f + R.length) (I d) (I i) t = dlq (f_X12_worked_l14 0 K f) (i + R.length - 1) e d (E g) t') ∧ Fz d t t' ∧ ATq 0 d t t') ∧
  (1 ≤ l → (d = 0 ∨ ¬ t.1 133 d = 1) → t.1 132 d = 0 → (2 ≤ l → t.1 129 d = 0 ∧ t.1 130 d = 20) → (3 ≤ l → t.1 128 d = 0) → (4 ≤ l → t.1 126 d = 0) → ∃ t', (∀ K f, f_X12_worked_l14 0 K (f + R.length) (I d) (I i) t = f_X12_worked_l14 0 K f (I d) (I (i + R.length)) t') ∧ VALq l t' d = E g ∧ Fz d t t' ∧ ATq l d t t')
section MVALL
variable {g : Nat → Int32} {d : Nat}
theorem Fz.kp {d : Nat} {t t' : HS} (f : Fz d t t') {N : Nat} {R : List Int32} {i : Nat} (h1 : t.1 121 0 = I N) (h2 : ∀ j, j < R.length → t.1 122 (i + j) = R.getD j 0) (h3 : ∀ k, k < 4 → t.1 134 (k + 1) = g k) : t'.1 121 0 = I N ∧ (∀ j, j < R.length → t'.1 122 (i + j) = R.getD j 0) ∧ (∀ k, k < 4 → t'.1 134 (k + 1) = g k) := by
  rw [f.1 121 (by omega), f.1 122 (by omega), f.1 134 (by omega)]
  exact ⟨h1, h2, h3⟩
theorem len_op (R R' : List Int32) (v : Int32) : (R ++ v :: R').length = R.length + R'.length + 1 := by simp only [List.length_append, List.length_cons]; omega
/-- the codes of an operator: those ahead, itself, those behind -/
theorem op_at {t : HS} {R R' : List Int32} {v : Int32} {i : Nat} (h : ∀ j, j < (R ++ v :: R').length → t.1 122 (i + j) = (R ++ v :: R').getD j 0) : (∀ j, j < R.length → t.1 122 (i + j) = R.getD j 0) ∧ t.1 122 (i + R.length) = v ∧ ∀ j, j < R'.length → t.1 122 (i + R.length + 1 + j) = R'.getD j 0 := by
  rw [len_op] at h
  refine ⟨fun j hj => by rw [h j (by omega), getD_app, if_pos hj], by rw [h _ (by omega), getD_app, if_neg (by omega), Nat.sub_self]; rfl, fun j hj => ?_⟩
  rw [show i + R.length + 1 + j = i + (R.length + (j + 1)) from by omega, h _ (by omega), getD_app, if_neg (by omega), Nat.add_sub_cancel_left]
  rfl
theorem mv_num {N' : Nat} (h1 : d ≤ 4) (h2 : N' < 10000) : MVq g 0 d [I N'] [I (100 + N')] (fun _ => I N') := by
  refine ⟨⟨h1, Nat.le_refl _⟩, fun t N i e1 e2 e3 e4 e5 => ⟨fun _ => ?_, fun q => absurd q (by omega)⟩⟩
  have e3 : i + 1 ≤ N := e3
  refine ⟨t, fun K f => ⟨FU, by show 100 + d ≤ 5000; omega, ?_⟩, Fz.refl, rfl, fun _ => ⟨rfl, rfl⟩, fun _ => ⟨rfl, rfl⟩, fun _ => ⟨rfl, rfl⟩, fun _ => ⟨rfl, rfl⟩⟩
  have := m_disp (K := K) (f := f) (d := d) e1 e2 (by omega) (e4 0 (by show 0 < 1; omega))
  rw [show [I (100 + N')].getD 0 0 = I (100 + N') from rfl, q_num _ h2] at this
  exact this
theorem mv_fact {k : Nat} (h1 : d ≤ 4) (h2 : k < 4) : MVq g 0 d [-(I (k + 1))] [I (k + 1)] (fun g => g k) := by
  refine ⟨⟨h1, Nat.le_refl _⟩, fun t N i e1 e2 e3 e4 e5 => ⟨fun _ => ?_, fun q => absurd q (by omega)⟩⟩
  have e3 : i + 1 ≤ N := e3
  refine ⟨t, fun K f => ⟨FU, by show 100 + d ≤ 5000; omega, ?_⟩, Fz.refl, rfl, fun _ => ⟨rfl, rfl⟩, fun _ => ⟨rfl, rfl⟩, fun _ => ⟨rfl, rfl⟩, fun _ => ⟨rfl, rfl⟩⟩
  have := m_disp (K := K) (f := f) (d := d) e1 e2 (by omega) (e4 0 (by show 0 < 1; omega))
  rw [show [I (k + 1)].getD 0 0 = I (k + 1) from rfl, q_fact _ h2, e5 k h2] at this
  exact this
theorem openq_e (t : HS) (d : Nat) (y : Int32) (j : Nat) (h : j ≤ d) : Fz j t (openq t d y) ∧ (openq t d y).1 133 d = y ∧ (openq t d y).1 126 d = 0 ∧ (openq t d y).1 128 d = 0 ∧ (openq t d y).1 129 d = 0 ∧ (openq t d y).1 130 d = 20 ∧ (openq t d y).1 132 d = 0 := by
  unfold openq
  refine ⟨?_, ?_, ?_, ?_, ?_, ?_, ?_⟩
  · exact (Fz.sI (by decide) h).trans ((Fz.sI (by decide) h).trans ((Fz.sI (by decide) h).trans ((Fz.sI (by decide) h).trans ((Fz.sI (by decide) h).trans (Fz.sI (by decide) h)))))
  · simp only [sI_at]; rfl
  · simp only [sI_at]; rfl
  · simp only [sI_at]; rfl
  · simp only [sI_at]; rfl
  · simp only [sI_at]; rfl
  · simp only [sI_at]; rfl
theorem Fz.at0 {j d : Nat} {t t' : HS} (f : Fz d t t') (h : j < d) : ATq 0 j t t' := ⟨f.2 _ _ h, fun _ => ⟨f.2 _ _ h, f.2 _ _ h⟩, fun _ => ⟨f.2 _ _ h, f.2 _ _ h⟩, fun _ => ⟨f.2 _ _ h, f.2 _ _ h⟩, fun _ => ⟨f.2 _ _ h, f.2 _ _ h⟩⟩
theorem mv_nt {C R : List Int32} {E : OF} (x : MVq g 0 (d + 1) C R E) : MVq g 0 d (C ++ [-5]) (30 :: R) (fun g => if E g = 0 then 1 else 0) := by
  have x1 := x.1.1
  refine ⟨⟨by omega, by show 1 ≤ R.length + 1; omega⟩, fun t N i e1 e2 e3 e4 e5 => ⟨fun _ => ?_, fun q => absurd q (by omega)⟩⟩
  have e3 : i + (R.length + 1) ≤ N := e3
  obtain ⟨o1, o2, -⟩ := openq_e t (d + 1) 1 (d + 1) (Nat.le_refl _)
  have h4 : ∀ j, j < R.length → t.1 122 (i + 1 + j) = R.getD j 0 := fun j hj => by
    rw [show i + 1 + j = i + (j + 1) from by omega]
    exact e4 (j + 1) (by show j + 1 < R.length + 1; omega)
  obtain ⟨k1, k2, k3⟩ := o1.kp (g := g) e1 h4 e5
  obtain ⟨t', a1, a2, a3⟩ := ((x.2 _ N (i + 1) k1 e2 (by omega) k2 k3).1 rfl)
  refine ⟨t', fun K f => ?_, (o1.trans a2).down (by omega), (o1.trans a2).at0 (by omega)⟩
  obtain ⟨e, b1, b2⟩ := a1 K f
  obtain ⟨e', rfl⟩ : ∃ e', e = e' + 1 := ⟨e - 1, by omega⟩
  refine ⟨e', by omega, ?_⟩
  show f_X12_worked_l14 0 K (f + (R.length + 1)) (I d) (I i) t = dlq (f_X12_worked_l14 0 K f) (i + (R.length + 1) - 1) e' d (if E g = 0 then 1 else 0) t'
  have h0 : t.1 122 i = 30 := e4 0 (by show 0 < R.length + 1; omega)
  rw [show f + (R.length + 1) = (f + R.length) + 1 from by omega, m_disp e1 e2 (by omega) h0, q_open _ (by omega) (Or.inr ⟨rfl, rfl⟩), b2, dl_not _ (by omega) (by rw [a3.1]; exact o2)]
  rw [show i + (R.length + 1) - 1 = i + 1 + R.length - 1 from by omega]
theorem testq_e (t : HS) (d : Nat) : Fz d t (testq t d) ∧ (testq t d).1 133 d = t.1 133 d ∧ (testq t d).1 125 d = WVq t d ∧ (testq t d).1 128 d = 0 ∧ (testq t d).1 129 d = 0 ∧ (testq t d).1 130 d = 20 ∧ (testq t d).1 132 d = 0 := by
  unfold testq sumq
  refine ⟨?_, ?_, ?_, ?_, ?_, ?_, ?_⟩
  · exact (Fz.sI (by decide) (Nat.le_refl _)).trans ((Fz.sI (by decide) (Nat.le_refl _)).trans ((Fz.sI (by decide) (Nat.le_refl _)).trans ((Fz.sI (by decide) (Nat.le_refl _)).trans ((Fz.sI (by decide) (Nat.le_refl _)).trans (Fz.sI (by decide) (Nat.le_refl _))))))
  · simp only [sI_at]; rfl
  · rw [sI_n _ _ _ (show 125 ≠ 130 from by decide), sI_n _ _ _ (show 125 ≠ 129 from by decide), sI_n _ _ _ (show 125 ≠ 128 from by decide), sI_k]
  · rw [sI_n _ _ _ (show 128 ≠ 130 from by decide), sI_n _ _ _ (show 128 ≠ 129 from by decide), sI_k]
  · rw [sI_n _ _ _ (show 129 ≠ 130 from by decide), sI_k]
  · rw [sI_k]
  · rw [sI_n _ _ _ (show 132 ≠ 130 from by decide), sI_n _ _ _ (show 132 ≠ 129 from by decide), sI_n _ _ _ (show 132 ≠ 128 from by decide), sI_n _ _ _ (show 132 ≠ 125 from by decide), sI_k]
theorem mv_par {C R : List Int32} {E : OF} (x : MVq g 4 (d + 1) C R E) : MVq g 0 d C (28 :: (R ++ [29])) E := by
  have x1 := x.1.1
  refine ⟨⟨by omega, by simp only [List.length_cons]; omega⟩, fun t N i e1 e2 e3 e4 e5 => ⟨fun _ => ?_, fun q => absurd q (by omega)⟩⟩
  have len : (28 :: (R ++ [29]) : List Int32).length = R.length + 2 := by simp only [List.length_append, List.length_cons, List.length_nil]
  rw [len] at e3 e4
  obtain ⟨o1, o2, o3, o4, o5, o6, o7⟩ := openq_e t (d + 1) 0 (d + 1) (Nat.le_refl _)
  have gt : ∀ j, (28 :: (R ++ [29]) : List Int32).getD (j + 1) 0 = (R ++ [29]).getD j 0 := fun j => rfl
  have h4 : ∀ j, j < R.length → t.1 122 (i + 1 + j) = R.getD j 0 := fun j hj => by
    rw [show i + 1 + j = i + (j + 1) from by omega, e4 (j + 1) (by omega), gt, getD_app, if_pos hj]
  obtain ⟨k1, k2, k3⟩ := o1.kp (g := g) e1 h4 e5
  obtain ⟨t', a1, a2, a3, a4⟩ := (x.2 _ N (i + 1) k1 e2 (by omega) k2 k3).2 (by omega) (Or.inr (by rw [o2]; decide)) o7 (fun _ => ⟨o5, o6⟩) (fun _ => o4) (fun _ => o3)
  obtain ⟨u1, -⟩ := testq_e t' (d + 1)
  have h29 : t'.1 122 (i + 1 + R.length) = 29 := by
    rw [a3.1 122 (by omega), o1.1 122 (by omega), show i + 1 + R.length = i + (R.length + 1) from by omega, e4 _ (by omega), gt, getD_app, if_neg (by omega), Nat.sub_self]
    rfl
  have hN : t'.1 121 0 = I N := by rw [a3.1 121 (by omega)]; exact k1
  have F := o1.trans (a3.trans u1)
  refine ⟨testq t' (d + 1), fun K f => ⟨FU, by show 100 + d ≤ 5000; omega, ?_⟩, F.down (by omega), F.at0 (by omega)⟩
  have h0 : t.1 122 i = 28 := e4 0 (by omega)
  have vE : WVq t' (d + 1) = E g := a2
  rw [len, show f + (R.length + 2) = (f + 1 + R.length) + 1 from by omega, m_disp e1 e2 (by omega) h0, q_open _ (by omega) (Or.inl ⟨rfl, rfl⟩), a1, m_disp hN e2 (by omega) h29, q_close _ (by omega), vE]
  rw [show i + (R.length + 2) - 1 = i + 1 + R.length from by omega]
theorem ATq.mono {l l' : Nat} {t t' : HS} (h : ATq l d t t') (q : l ≤ l') : ATq l' d t t' := ⟨h.1, fun z => h.2.1 (by omega), fun z => h.2.2.1 (by omega), fun z => h.2.2.2.1 (by omega), fun z => h.2.2.2.2 (by omega)⟩
theorem ATq.trans {l : Nat} {a b c : HS} (h : ATq l d a b) (k : ATq l d b c) : ATq l d a c := ⟨k.1.trans h.1, fun z => ⟨(k.2.1 z).1.trans (h.2.1 z).1, (k.2.1 z).2.trans (h.2.1 z).2⟩, fun z => ⟨(k.2.2.1 z).1.trans (h.2.2.1 z).1, (k.2.2.1 z).2.trans (h.2.2.1 z).2⟩, fun z => ⟨(k.2.2.2.1 z).1.trans (h.2.2.2.1 z).1, (k.2.2.2.1 z).2.trans (h.2.2.2.1 z).2⟩, fun z => ⟨(k.2.2.2.2 z).1.trans (h.2.2.2.2 z).1, (k.2.2.2.2 z).2.trans (h.2.2.2.2 z).2⟩⟩
theorem AT1_131 {t : HS} {x : Int32} {l : Nat} (h : 1 ≤ l) : ATq l d t (sI t 131 d x) := ⟨by rw [sI_n _ _ _ (by decide)], fun _ => ⟨by rw [sI_n _ _ _ (by decide)], by rw [sI_n _ _ _ (by decide)]⟩, fun _ => ⟨by rw [sI_n _ _ _ (by decide)], by rw [sI_n _ _ _ (by decide)]⟩, fun _ => ⟨by rw [sI_n _ _ _ (by decide)], by rw [sI_n _ _ _ (by decide)]⟩, fun z => absurd z (by omega)⟩
theorem AT1_132 {t : HS} {x : Int32} {l : Nat} (h : 1 ≤ l) : ATq l d t (sI t 132 d x) := ⟨by rw [sI_n _ _ _ (by decide)], fun _ => ⟨by rw [sI_n _ _ _ (by decide)], by rw [sI_n _ _ _ (by decide)]⟩, fun _ => ⟨by rw [sI_n _ _ _ (by decide)], by rw [sI_n _ _ _ (by decide)]⟩, fun _ => ⟨by rw [sI_n _ _ _ (by decide)], by rw [sI_n _ _ _ (by decide)]⟩, fun z => absurd z (by omega)⟩
theorem mv_up0 {C R : List Int32} {E : OF} (x : MVq g 0 d C R E) : MVq g 1 d C R E := by
  have x1 := x.1.1
  refine ⟨x.1, fun t N i e1 e2 e3 e4 e5 => ⟨fun q => absurd q (by omega), fun _ h1 h2 _ _ _ => ?_⟩⟩
  obtain ⟨t', a1, a2, a3⟩ := (x.2 t N i e1 e2 e3 e4 e5).1 rfl
  have hR := x.1.2
  have z132 : t'.1 132 d = 0 := by rw [(a3.2.2.2.2 (by omega)).2]; exact h2
  refine ⟨sI t' 131 d (E g), fun K f => ?_, sI_k _ _ _ _, a2.trans (Fz.sI (by decide) (Nat.le_refl _)), (a3.mono (by omega)).trans (AT1_131 (by omega))⟩
  obtain ⟨e, b1, b2⟩ := a1 K f
  obtain ⟨e', rfl⟩ : ∃ e', e = e' + 1 := ⟨e - 1, by omega⟩
  rw [b2, dl_stop _ (by omega) (h1.imp id (fun z => by rw [a3.1]; exact z)), if_pos z132]
  rw [show i + R.length - 1 + 1 = i + R.length from by omega]
theorem mv_mul {C R C' R' : List Int32} {E E' : OF} (x : MVq g 1 d C R E) (y : MVq g 0 d C' R' E') : MVq g 1 d (C ++ (C' ++ [-12])) (R ++ 22 :: R') (fun g => E g * E' g) := by
  have x1 := x.1.1
  refine ⟨⟨x1, by rw [len_op]; omega⟩, fun t N i e1 e2 e3 e4 e5 => ⟨fun q => absurd q (by omega), fun _ h1 h2 _ _ _ => ?_⟩⟩
  obtain ⟨p1, p2, p3⟩ := op_at e4
  rw [len_op] at e3
  obtain ⟨t1, a1, a2, a3, a4⟩ := (x.2 t N i e1 e2 (by omega) p1 e5).2 (by omega) h1 h2 (fun q => absurd q (by omega)) (fun q => absurd q (by omega)) (fun q => absurd q (by omega))
  have F2 : Fz d t (sI t1 132 d 22) := a3.trans (Fz.sI (by decide) (Nat.le_refl _))
  obtain ⟨k1, k2, k3⟩ := F2.kp (g := g) e1 p3 e5
  obtain ⟨t3, b1, b2, b3⟩ := (y.2 (sI t1 132 d 22) N (i + R.length + 1) k1 e2 (by omega) k2 k3).1 rfl
  have e22 : t1.1 122 (i + R.length) = 22 := by rw [a3.1 122 (by omega)]; exact p2
  have eN : t1.1 121 0 = I N := by rw [a3.1 121 (by omega)]; exact e1
  have z133 : t3.1 133 d = t.1 133 d := by rw [b3.1, sI_n _ _ _ (show 133 ≠ 132 from by decide), a4.1]
  have z132 : ¬ t3.1 132 d = 0 := by rw [(b3.2.2.2.2 (by omega)).2, sI_k]; decide
  have z131 : t3.1 131 d = E g := by rw [(b3.2.2.2.2 (by omega)).1, sI_n _ _ _ (show 131 ≠ 132 from by decide)]; exact a2
  have yR := y.1.2
  refine ⟨sI t3 131 d (E g * E' g), fun K f => ?_, sI_k _ _ _ _, F2.trans (b2.trans (Fz.sI (by decide) (Nat.le_refl _))), (a4.trans (AT1_132 (by omega))).trans ((b3.mono (by omega)).trans (AT1_131 (by omega)))⟩
  obtain ⟨e, c1, c2⟩ := b1 K f
  obtain ⟨e', rfl⟩ : ∃ e', e = e' + 1 := ⟨e - 1, by omega⟩
  rw [len_op, show f + (R.length + R'.length + 1) = ((f + R'.length) + 1) + R.length from by omega, a1, m_disp eN e2 (by omega) e22, q_mul _ (by omega), c2, dl_stop _ (by omega) (by rw [z133]; exact h1), if_neg z132, z131]
  rw [show i + R.length + 1 + R'.length - 1 + 1 = i + (R.length + R'.length + 1) from by omega]
theorem mv_bin {l l0 l1 : Nat} {C R C' R' C2 : List Int32} {E E' E2 : OF} {v : Int32} (hl0 : 1 ≤ l0 ∧ l0 ≤ l) (hl1 : 1 ≤ l1 ∧ l1 ≤ l) (step : HS → HS)
    (hstep : ∀ K f i t, d ≤ 4 → dspq (f_X12_worked_l14 0 K f) (I d) (I i) v t = f_X12_worked_l14 0 K f (I d) (I (i + 1)) (step t)) (hF : ∀ t, Fz d t (step t)) (hAT : ∀ t, ATq l d t (step t)) (hpre : ∀ t, (step t).1 132 d = 0 ∧ (2 ≤ l1 → (step t).1 129 d = 0 ∧ (step t).1 130 d = 20) ∧ (3 ≤ l1 → (step t).1 128 d = 0) ∧ (4 ≤ l1 → (step t).1 126 d = 0))
    (hval : ∀ t t', VALq l0 t d = E g → ATq l1 d (step t) t' → VALq l1 t' d = E' g → VALq l t' d = E2 g) (x : MVq g l0 d C R E) (y : MVq g l1 d C' R' E') : MVq g l d C2 (R ++ v :: R') E2 := by
  have x1 := x.1.1
  refine ⟨⟨x1, by rw [len_op]; omega⟩, fun t N i e1 e2 e3 e4 e5 => ⟨fun q => absurd q (by omega), fun _ h1 h2 h3 h4 h5 => ?_⟩⟩
  obtain ⟨p1, p2, p3⟩ := op_at e4
  rw [len_op] at e3
  obtain ⟨t1, a1, a2, a3, a4⟩ := (x.2 t N i e1 e2 (by omega) p1 e5).2 hl0.1 h1 h2 (fun q => h3 (by omega)) (fun q => h4 (by omega)) (fun q => h5 (by omega))
  have F2 : Fz d t (step t1) := a3.trans (hF t1)
  obtain ⟨k1, k2, k3⟩ := F2.kp (g := g) e1 p3 e5
  obtain ⟨r1, r2, r3, r4⟩ := hpre t1
  have A2 : ATq l d t (step t1) := (a4.mono hl0.2).trans (hAT t1)
  obtain ⟨t3, b1, b2, b3, b4⟩ := (y.2 (step t1) N (i + R.length + 1) k1 e2 (by omega) k2 k3).2 hl1.1 (h1.imp id (fun z => by rw [A2.1]; exact z)) r1 r2 r3 r4
  have e22 : t1.1 122 (i + R.length) = v := by rw [a3.1 122 (by omega)]; exact p2
  have eN : t1.1 121 0 = I N := by rw [a3.1 121 (by omega)]; exact e1
  refine ⟨t3, fun K f => ?_, hval t1 t3 a2 b4 b2, F2.trans b3, A2.trans (b4.mono hl1.2)⟩
  rw [len_op, show f + (R.length + R'.length + 1) = ((f + R'.length) + 1) + R.length from by omega, a1, m_disp eN e2 (by omega) e22, hstep _ _ _ _ x1, b1]
  rw [show i + R.length + 1 + R'.length = i + (R.length + R'.length + 1) from by omega]
theorem mv_up {l : Nat} {C R : List Int32} {E : OF} (hl : 1 ≤ l) (hval : ∀ t t', (2 ≤ l + 1 → t.1 129 d = 0 ∧ t.1 130 d = 20) → (3 ≤ l + 1 → t.1 128 d = 0) → (4 ≤ l + 1 → t.1 126 d = 0) → ATq l d t t' → VALq l t' d = E g → VALq (l + 1) t' d = E g) (x : MVq g l d C R E) : MVq g (l + 1) d C R E := by
  refine ⟨x.1, fun t N i e1 e2 e3 e4 e5 => ⟨fun q => absurd q (by omega), fun _ h1 h2 h3 h4 h5 => ?_⟩⟩
  obtain ⟨t1, a1, a2, a3, a4⟩ := (x.2 t N i e1 e2 e3 e4 e5).2 hl h1 h2 (fun q => h3 (by omega)) (fun q => h4 (by omega)) (fun q => h5 (by omega))
  exact ⟨t1, a1, hval t t1 h3 h4 h5 a4 a2, a3, a4.mono (by omega)⟩
end MVALL
