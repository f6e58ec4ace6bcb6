/-! rests: the choices at rest are counted -/
theorem D9 : ∀ c, c < 64 → ∀ V, V < 64 → c &&& V = c → ∀ i, i < 6 → V.testBit i = true → (c ^^^ 2 ^ i) &&& V = c ^^^ 2 ^ i := by
  intro c hc V hV hs i hi hv
  refine Nat.eq_of_testBit_eq fun j => ?_
  have := congrArg (fun x => x.testBit j) hs
  simp only [Nat.testBit_and, Nat.testBit_xor, Nat.testBit_two_pow] at this ⊢
  by_cases z : i = j
  · subst z; rw [hv, Bool.and_true]
  · rw [decide_eq_false z, Bool.xor_false]; exact this
theorem D10 {B V c i : Nat} (hB : B &&& V = 0) (hv : V.testBit i = true) : (B ||| c) ^^^ 2 ^ i = B ||| (c ^^^ 2 ^ i) := by
  refine Nat.eq_of_testBit_eq fun j => ?_
  have hb := congrArg (fun x => x.testBit j) hB
  simp only [Nat.testBit_and, Nat.testBit_or, Nat.testBit_xor, Nat.testBit_two_pow, Nat.zero_testBit] at hb ⊢
  by_cases z : i = j
  · subst z
    rw [hv, Bool.and_true] at hb
    rw [hb]; simp
  · rw [decide_eq_false z, Bool.xor_false, Bool.xor_false]
theorem sI_same {s : HS} {o k : Nat} {x : Int32} (h : s.1 o k = x) : sI s o k x = s := by
  refine Prod.ext (funext fun o' => funext fun k' => ?_) rfl
  show up2 s.1 o k x o' k' = _
  unfold up2
  by_cases z : o' = o
  · subst z
    rw [if_pos (Eq.refl _)]
    by_cases y : k' = k
    · subst y; rw [if_pos (Eq.refl _)]; exact h.symm
    · rw [if_neg y]
  · rw [if_neg z]
section RESTS2
variable {p d c h n : Nat} {s t : HS}
/-- whether a choice is at rest, of both -/
theorem r_atRest {V B c' : Nat} (hs : s.2.2.1 = p) (okp : okX4 p = true) (hn6 : n ≤ 6) (nc : s.1 p 14 = I n) (nm : t.1 103 2 = I n) (hV : V < 64) (hB : B < 64) (hBV : B &&& V = 0) (hc : c' < 64) (hsub : c' &&& V = c') (G : GQ n V B (V + 1) s t) : ∀ e k, k + e = n → ∃ y : Int32, (y = 0 ∨ y = 1) ∧ (∀ f, e < f → f_X11_isAtRest_l2 (I V) (I c') s f (I k) = some y) ∧ (∀ v2 v3 v4 K f v6, e < f → f_X12_rests_l225 (I V) v2 v3 v4 (I (B ||| c')) K f v6 (I k) t = K (if y = 0 then 0 else v6) t) := by
  have or64 : ∀ x, x < 64 → B ||| x < 64 := fun x hx => Nat.or_lt_two_pow (n := 6) (by omega) (by omega)
  intro e
  induction e with
  | zero =>
    intro k hk
    have hk : k = n := by omega
    subst hk
    refine ⟨1, Or.inr (Eq.refl _), fun f hf => ?_, fun v2 v3 v4 K f v6 hf => ?_⟩
    · obtain ⟨f', rfl⟩ : ∃ f', f = f' + 1 := ⟨f - 1, by omega⟩
      simp only [f_X11_isAtRest_l2, f_X11_isAtRest_l2b, hs, okp, gd_t, nc, if_pos (Int32.le_refl _)]
    · obtain ⟨f', rfl⟩ : ∃ f', f = f' + 1 := ⟨f - 1, by omega⟩
      simp only [f_X12_rests_l225, f_X12_rests_l225b, nm, if_pos (Int32.le_refl _), if_neg one_ne]
  | succ e ih =>
    intro k hk
    have hk2 : ¬ I n ≤ I k := by rw [I_le (by omega) (by omega)]; omega
    obtain ⟨y, y1, g1, g2⟩ := ih (k + 1) (by omega)
    by_cases z : V.testBit k = true
    · have b0 : ((I V) >>> (I k &&& 31)) &&& (1 : Int32) = 1 := by rw [bitb V hV k (by omega), if_pos z]
      obtain ⟨x1, x2⟩ := D5 c' hc k (by omega)
      obtain ⟨x3, x4⟩ := D5 (B ||| c') (or64 c' hc) k (by omega)
      have sub' := D9 c' hc V hV hsub k (by omega) z
      have lt' : c' ^^^ 2 ^ k < V + 1 := by rw [← sub']; exact Nat.lt_succ_of_le Nat.and_le_right
      have lt0 : c' < V + 1 := by rw [← hsub]; exact Nat.lt_succ_of_le Nat.and_le_right
      have e1 := G (c' ^^^ 2 ^ k) lt' sub' k (by omega) z
      have e2 := G c' lt0 hsub k (by omega) z
      rw [← D10 hBV z] at e1
      have i1 : inb (I (6 * (c' ^^^ 2 ^ k) + k)) 384 = true := inb_t (by omega) (by omega)
      have i2 : inb (I (6 * c' + k)) 384 = true := inb_t (by omega) (by omega)
      have i3 : inb (I (6 * ((B ||| c') ^^^ 2 ^ k) + k)) 384 = true := inb_t (by omega) (by omega)
      have i4 : inb (I (6 * (B ||| c') + k)) 384 = true := inb_t (by have := or64 c' hc; omega) (by have := or64 c' hc; omega)
      have n1 : (I (6 * (c' ^^^ 2 ^ k) + k)).toNatClampNeg = 6 * (c' ^^^ 2 ^ k) + k := I_nat (by omega)
      have n2 : (I (6 * c' + k)).toNatClampNeg = 6 * c' + k := I_nat (by omega)
      have n3 : (I (6 * ((B ||| c') ^^^ 2 ^ k) + k)).toNatClampNeg = 6 * ((B ||| c') ^^^ 2 ^ k) + k := I_nat (by omega)
      have n4 : (I (6 * (B ||| c') + k)).toNatClampNeg = 6 * (B ||| c') + k := I_nat (by have := or64 c' hc; omega)
      by_cases q : t.1 157 (6 * ((B ||| c') ^^^ 2 ^ k) + k) ≤ t.1 157 (6 * (B ||| c') + k)
      · refine ⟨y, y1, fun f hf => ?_, fun v2 v3 v4 K f v6 hf => ?_⟩
        · obtain ⟨f', rfl⟩ : ∃ f', f = f' + 1 := ⟨f - 1, by omega⟩
          simp only [f_X11_isAtRest_l2, f_X11_isAtRest_l2b, hs, okp, gd_t, nc, if_neg hk2, ltb_t, b0, if_neg one_ne, x1, I_6, i1, i2, n1, n2, e1, e2, if_pos q, I_succ, g1 f' (by omega)]
        · obtain ⟨f', rfl⟩ : ∃ f', f = f' + 1 := ⟨f - 1, by omega⟩
          simp only [f_X12_rests_l225, f_X12_rests_l225b, nm, if_neg hk2, b0, if_true, x3, I_6', i3, i4, n3, n4, gd_t, if_pos q, ltb_t, I_succ]
          exact g2 v2 v3 v4 K f' v6 (by omega)
      · refine ⟨0, Or.inl (Eq.refl _), fun f hf => ?_, fun v2 v3 v4 K f v6 hf => ?_⟩
        · obtain ⟨f', rfl⟩ : ∃ f', f = f' + 1 := ⟨f - 1, by omega⟩
          simp only [f_X11_isAtRest_l2, f_X11_isAtRest_l2b, hs, okp, gd_t, nc, if_neg hk2, ltb_t, b0, if_neg one_ne, x1, I_6, i1, i2, n1, n2, e1, e2, if_neg q]
        · obtain ⟨f', rfl⟩ : ∃ f', f = f' + 1 := ⟨f - 1, by omega⟩
          simp only [f_X12_rests_l225, f_X12_rests_l225b, nm, if_neg hk2, b0, if_true, x3, I_6', i3, i4, n3, n4, gd_t, if_neg q, ltb_t, I_succ]
          rw [g2 v2 v3 v4 K f' 0 (by omega), ite_self]
    · have b0 : ((I V) >>> (I k &&& 31)) &&& (1 : Int32) = 0 := by rw [bitb V hV k (by omega), if_neg z]
      refine ⟨y, y1, fun f hf => ?_, fun v2 v3 v4 K f v6 hf => ?_⟩
      · obtain ⟨f', rfl⟩ : ∃ f', f = f' + 1 := ⟨f - 1, by omega⟩
        simp only [f_X11_isAtRest_l2, f_X11_isAtRest_l2b, hs, okp, gd_t, nc, if_neg hk2, ltb_t, b0, if_true, I_succ, g1 f' (by omega)]
      · obtain ⟨f', rfl⟩ : ∃ f', f = f' + 1 := ⟨f - 1, by omega⟩
        have z1 : ¬ (0 : Int32) = 1 := by decide
        simp only [f_X12_rests_l225, f_X12_rests_l225b, nm, if_neg hk2, b0, if_neg z1, ltb_t, I_succ]
        exact g2 v2 v3 v4 K f' v6 (by omega)
/-- the choice asked for, of both -/
theorem r_count {V W : Nat} (w : Int32) (hs : s.2.2.1 = p) (okp : okX4 p = true) (hn : n ≤ 6) (nc : s.1 p 14 = I n) (nm : t.1 103 2 = I n) (hV : V < 2 ^ n) (hW : W < 2 ^ n) (GG : GQ n V (W &&& (63 ^^^ V)) (V + 1) s t) :
    (∃ z, (∀ K, f_X11_rests_l39 (I V) w K s FU 0 0 = some (some z)) ∧ ∀ K, f_X12_rests_l193 (I V) w (I W) K FU 0 0 t = some (z, t)) ∨ ∃ m, (∀ K, f_X11_rests_l39 (I V) w K s FU 0 0 = K m) ∧ ∀ K, f_X12_rests_l193 (I V) w (I W) K FU 0 0 t = K m t := by
  have p64 : 2 ^ n ≤ 64 := (Nat.pow_le_pow_right (by omega) hn : 2 ^ n ≤ 2 ^ 6)
  have p1 : 1 ≤ 2 ^ n := Nat.one_le_two_pow
  have all : f_X12_allBuyers t = I (2 ^ n - 1) := by
    unfold f_X12_allBuyers
    rw [nm, sh1 n hn, show (1 : Int32) = I 1 from litI 1, I_sub p1]
  generalize hBe : W &&& (63 ^^^ V) = B
  rw [hBe] at GG
  obtain ⟨b1, b2⟩ := D2 W (by omega) V (by omega)
  rw [hBe] at b1 b2
  have Bn : B < 2 ^ n := by rw [← hBe]; exact Nat.lt_of_le_of_lt Nat.and_le_left hW
  have disj : ∀ c', c' &&& V = c' → B &&& c' = 0 := fun c' hc => by
    rw [← hc, Nat.and_comm c' V, ← Nat.and_assoc, b1, Nat.zero_and]
  have orS : ∀ c', c' < 64 → c' &&& V = c' → B ||| c' = B + c' := fun c' h1 h2 => D4 B (by omega) c' h1 (disj c' h2)
  have orL : ∀ c', c' < V + 1 → B ||| c' < 2 ^ n := fun c' h1 => Nat.or_lt_two_pow Bn (by omega)
  have key := lock (σ := Int32) (τ := Int32) (V + 1) (2 ^ n) (fun c' => c' &&& V = c') (fun X => X &&& (63 ^^^ V) = B) (fun c' => B ||| c')
    (fun c' x X y => (∃ z, (∀ K f, V + 1 - c' < f → f_X11_rests_l39 (I V) w K s f x (I c') = some (some z)) ∧ ∀ K f, 2 ^ n - X < f → f_X12_rests_l193 (I V) w (I W) K f y (I X) t = some (z, t)) ∨ ∃ m, (∀ K f, V + 1 - c' < f → f_X11_rests_l39 (I V) w K s f x (I c') = K m) ∧ ∀ K f, 2 ^ n - X < f → f_X12_rests_l193 (I V) w (I W) K f y (I X) t = K m t)
    (fun c' x y => x = y)
    (fun c' hc sb => ⟨orL c' hc, ?_⟩) (fun X hX mX => ?_) (fun c1 c2 h1 h2 s1 s2 => ?_) ?_ (fun c' x y _ _ hQ => hQ) ?_ ?_ ?_ (V + 1 + 2 ^ n) 0 0 0 0 (by omega) (by omega) (by omega) (fun c' _ _ => ⟨fun _ => Nat.zero_le _, fun _ => Nat.zero_le _⟩) rfl
  · rw [I_e0] at key
    rcases key with ⟨z, k1, k2⟩ | ⟨m, k1, k2⟩
    · exact Or.inl ⟨z, fun K => k1 K FU (FU_lt (by omega)), fun K => k2 K FU (FU_lt (by omega))⟩
    · exact Or.inr ⟨m, fun K => k1 K FU (FU_lt (by omega)), fun K => k2 K FU (FU_lt (by omega))⟩
  · show (B ||| c') &&& (63 ^^^ V) = B
    rw [Nat.and_or_distrib_right, b2, (D1 c' (by omega) V (by omega)).mpr sb, Nat.or_zero]
  · obtain ⟨d1, d2⟩ := D3 X (by omega) V (by omega)
    refine ⟨X &&& V, Nat.lt_succ_of_le Nat.and_le_right, d2, ?_⟩
    show B ||| (X &&& V) = X
    rw [← mX]; exact d1
  · show c1 ≤ c2 ↔ B ||| c1 ≤ B ||| c2
    rw [orS c1 (by omega) s1, orS c2 (by omega) s2]; omega
  · intro c' x X y hc nb hQ hG
    have h1 : ¬ I V < I c' := by rw [I_lt (by omega) (by omega)]; omega
    have h2 : ¬ (I c' &&& (I V ^^^ (-1 : Int32))) = 0 := by
      rw [andn c' (by omega) V (by omega), I0, I_inj (by have : c' &&& (63 ^^^ V) ≤ c' := Nat.and_le_left; omega) (by omega), D1 c' (by omega) V (by omega)]; exact nb
    have st : ∀ K f', f_X11_rests_l39 (I V) w K s (f' + 1) x (I c') = f_X11_rests_l39 (I V) w K s f' x (I (c' + 1)) := fun K f' => by
      simp only [f_X11_rests_l39, f_X11_rests_l39b, if_neg h1, if_neg h2, ltb_t, I_succ]
    rcases hG with ⟨z, k1, k2⟩ | ⟨m, k1, k2⟩
    · refine Or.inl ⟨z, fun K f hf => ?_, k2⟩
      obtain ⟨f', rfl⟩ : ∃ f', f = f' + 1 := ⟨f - 1, by omega⟩
      rw [st]; exact k1 K f' (by omega)
    · refine Or.inr ⟨m, fun K f hf => ?_, k2⟩
      obtain ⟨f', rfl⟩ : ∃ f', f = f' + 1 := ⟨f - 1, by omega⟩
      rw [st]; exact k1 K f' (by omega)
  · intro c' x X y hX nb hQ hG
    have h1 : ¬ I (2 ^ n - 1) < I X := by rw [I_lt (by omega) (by omega)]; omega
    have h2 : ¬ (I X &&& (I V ^^^ (-1 : Int32))) = (I W &&& (I V ^^^ (-1 : Int32))) := by
      rw [andn X (by omega) V (by omega), andn W (by omega) V (by omega), hBe, I_inj (by have : X &&& (63 ^^^ V) ≤ X := Nat.and_le_left; omega) (by omega)]; exact nb
    have st : ∀ K f', f_X12_rests_l193 (I V) w (I W) K (f' + 1) y (I X) t = f_X12_rests_l193 (I V) w (I W) K f' y (I (X + 1)) t := fun K f' => by
      simp only [f_X12_rests_l193, f_X12_rests_l193b, all, if_neg h1, if_neg h2, ltb_t, I_succ]
    rcases hG with ⟨z, k1, k2⟩ | ⟨m, k1, k2⟩
    · refine Or.inl ⟨z, k1, fun K f hf => ?_⟩
      obtain ⟨f', rfl⟩ : ∃ f', f = f' + 1 := ⟨f - 1, by omega⟩
      rw [st]; exact k2 K f' (by omega)
    · refine Or.inr ⟨m, k1, fun K f hf => ?_⟩
      obtain ⟨f', rfl⟩ : ∃ f', f = f' + 1 := ⟨f - 1, by omega⟩
      rw [st]; exact k2 K f' (by omega)
  · -- both
    intro c' x y hc sb hQ hG
    have hQ : x = y := hQ
    subst hQ
    have oL := orL c' hc
    have h1 : ¬ I V < I c' := by rw [I_lt (by omega) (by omega)]; omega
    have h2 : (I c' &&& (I V ^^^ (-1 : Int32))) = 0 := by
      rw [andn c' (by omega) V (by omega), (D1 c' (by omega) V (by omega)).mpr sb, I_e0]
    have h3 : ¬ I (2 ^ n - 1) < I (B ||| c') := by rw [I_lt (by omega) (by omega)]; omega
    have h4 : (I (B ||| c') &&& (I V ^^^ (-1 : Int32))) = (I W &&& (I V ^^^ (-1 : Int32))) := by
      rw [andn _ (by omega) V (by omega), andn W (by omega) V (by omega), hBe, Nat.and_or_distrib_right, b2, (D1 c' (by omega) V (by omega)).mpr sb, Nat.or_zero]
    obtain ⟨y, y1, g1, g2⟩ := r_atRest hs okp hn nc nm (by omega) (by omega) b1 (by omega) sb GG n 0 (by omega)
    have g1 := g1 FU (FU_lt (by omega))
    have g2 := fun v2 v3 v4 K => g2 v2 v3 v4 K FU 1 (FU_lt (by omega))
    rw [I_e0] at g1 g2
    have ret : I (B ||| c') &&& I V = I c' := by
      rw [D6 _ (by omega) V (by omega), Nat.and_or_distrib_right, b1, sb, Nat.zero_or]
    have c1 : ∀ K f', f_X11_rests_l39 (I V) w K s (f' + 1) x (I c') = if y = 0 then f_X11_rests_l39 (I V) w K s f' x (I (c' + 1)) else if x = w then some (some (I c')) else f_X11_rests_l39 (I V) w K s f' (x + 1) (I (c' + 1)) := fun K f' => by
      simp only [f_X11_rests_l39, f_X11_rests_l39b, if_neg h1, if_pos h2, f_X11_isAtRest, g1, bnd_t, ltb_t, I_succ]
    have c2 : ∀ K f', f_X12_rests_l193 (I V) w (I W) K (f' + 1) x (I (B ||| c')) t = if y = 0 then f_X12_rests_l193 (I V) w (I W) K f' x (I ((B ||| c') + 1)) t else if x = w then some (I c', t) else f_X12_rests_l193 (I V) w (I W) K f' (x + 1) (I ((B ||| c') + 1)) t := fun K f' => by
      simp only [f_X12_rests_l193, f_X12_rests_l193b, all, if_neg h3, if_pos h4, g2, ltb_t, I_succ, ret]
      rcases y1 with rfl | rfl
      · simp only [if_true]
      · simp only [if_neg one_ne]
    by_cases y0 : y = 0
    · rcases hG x x rfl with ⟨z, k1, k2⟩ | ⟨m, k1, k2⟩
      · refine Or.inl ⟨z, fun K f hf => ?_, fun K f hf => ?_⟩
        · obtain ⟨f', rfl⟩ : ∃ f', f = f' + 1 := ⟨f - 1, by omega⟩
          rw [c1, if_pos y0]; exact k1 K f' (by omega)
        · obtain ⟨f', rfl⟩ : ∃ f', f = f' + 1 := ⟨f - 1, by omega⟩
          rw [c2, if_pos y0]; exact k2 K f' (by omega)
      · refine Or.inr ⟨m, fun K f hf => ?_, fun K f hf => ?_⟩
        · obtain ⟨f', rfl⟩ : ∃ f', f = f' + 1 := ⟨f - 1, by omega⟩
          rw [c1, if_pos y0]; exact k1 K f' (by omega)
        · obtain ⟨f', rfl⟩ : ∃ f', f = f' + 1 := ⟨f - 1, by omega⟩
          rw [c2, if_pos y0]; exact k2 K f' (by omega)
    by_cases z0 : x = w
    · refine Or.inl ⟨I c', fun K f hf => ?_, fun K f hf => ?_⟩
      · obtain ⟨f', rfl⟩ : ∃ f', f = f' + 1 := ⟨f - 1, by omega⟩
        rw [c1, if_neg y0, if_pos z0]
      · obtain ⟨f', rfl⟩ : ∃ f', f = f' + 1 := ⟨f - 1, by omega⟩
        rw [c2, if_neg y0, if_pos z0]
    · rcases hG (x + 1) (x + 1) rfl with ⟨z, k1, k2⟩ | ⟨m, k1, k2⟩
      · refine Or.inl ⟨z, fun K f hf => ?_, fun K f hf => ?_⟩
        · obtain ⟨f', rfl⟩ : ∃ f', f = f' + 1 := ⟨f - 1, by omega⟩
          rw [c1, if_neg y0, if_neg z0]; exact k1 K f' (by omega)
        · obtain ⟨f', rfl⟩ : ∃ f', f = f' + 1 := ⟨f - 1, by omega⟩
          rw [c2, if_neg y0, if_neg z0]; exact k2 K f' (by omega)
      · refine Or.inr ⟨m, fun K f hf => ?_, fun K f hf => ?_⟩
        · obtain ⟨f', rfl⟩ : ∃ f', f = f' + 1 := ⟨f - 1, by omega⟩
          rw [c1, if_neg y0, if_neg z0]; exact k1 K f' (by omega)
        · obtain ⟨f', rfl⟩ : ∃ f', f = f' + 1 := ⟨f - 1, by omega⟩
          rw [c2, if_neg y0, if_neg z0]; exact k2 K f' (by omega)
  · intro x y hQ
    have hQ : x = y := hQ
    subst hQ
    refine Or.inr ⟨x, fun K f hf => ?_, fun K f hf => ?_⟩
    · obtain ⟨f', rfl⟩ : ∃ f', f = f' + 1 := ⟨f - 1, by omega⟩
      have h1 : I V < I (V + 1) := by rw [I_lt (by omega) (by omega)]; omega
      simp only [f_X11_rests_l39, f_X11_rests_l39b, if_pos h1]
    · obtain ⟨f', rfl⟩ : ∃ f', f = f' + 1 := ⟨f - 1, by omega⟩
      have h3 : I (2 ^ n - 1) < I (2 ^ n) := by rw [I_lt (by omega) (by omega)]; omega
      simp only [f_X12_rests_l193, f_X12_rests_l193b, all, if_pos h3]
theorem bc0 : (bc 0).toInt < (1 : Int32).toInt := by decide +kernel
theorem j35_1 (v1 v2 : Int32) (t : HS) : f_X12_rests_j34 v1 v2 t = some (0, sI t 101 0 1) := by
  unfold f_X12_rests_j34 f_X12_rests_j35
  rw [ltb_t (a := sI t 101 0 1), if_pos (sI_k _ _ _ _)]
theorem Rel.t1 (R : Rel p d c h n s t) (x : Int32) : Rel p d c h n s (sI t 101 0 x) := R.fr (L := []) (M := [(101, 1)]) Fr.refl (fr_sI (by decide)) (avR_play p (okX4_c R.2.1.1)).2 (by decide +kernel)
theorem st_rests (R : Rel p d c h n s t) (v w : Int32) : ∃ r s' x t', f_X11_rests v w s = some (r, s') ∧ f_X12_rests v w t = some (x, t') ∧ Rel p d c h n s' t' ∧ ((r = none ∧ t'.1 101 0 = 1) ∨ (r = some x ∧ t'.1 101 0 = 0)) := by
  have hn := R.2.1.n6
  have okp := okX4_c R.2.1.1
  have R0 := R.t0
  have p64 : 2 ^ n ≤ 64 := (Nat.pow_le_pow_right (by omega) hn.2.2 : 2 ^ n ≤ 2 ^ 6)
  have bad : f_X11_rests v w s = some (none, s) → f_X12_rests v w t = f_X12_rests_j34 v w t → ∃ r s' x t', f_X11_rests v w s = some (r, s') ∧ f_X12_rests v w t = some (x, t') ∧ Rel p d c h n s' t' ∧ ((r = none ∧ t'.1 101 0 = 1) ∨ (r = some x ∧ t'.1 101 0 = 0)) := fun h1 h2 =>
    ⟨none, s, 0, sI t 101 0 1, h1, by rw [h2, j35_1], R.t1 1, Or.inl ⟨rfl, sI_k _ _ _ _⟩⟩
  rcases some_e R v with ⟨V, V1, V2, rfl, a1, a2, a3⟩ | ⟨a1, a2⟩
  case inr =>
    refine bad ?_ ?_
    · unfold f_X11_rests
      rw [a1, bnd_t, if_pos (Eq.refl _)]
    · unfold f_X12_rests
      by_cases z1 : v < 0
      · rw [if_pos z1]
      rw [if_neg z1]
      rcases a2 with a2 | ⟨-, a3⟩
      · by_cases z2 : f_X12_allBuyers t < v
        · rw [if_pos z2]
        have v0 : v = I 0 := by
          rw [Int32.lt_iff_toInt_lt] at z1 a2
          have i0 : (0 : Int32).toInt = 0 := by decide
          have i1 : (1 : Int32).toInt = 1 := by decide
          rw [← Int32.toInt_inj, I_toInt (by omega)]; omega
        rw [if_neg z2, r_bits v0 (by omega), bnd_t, v0, I_e0, within_0 (Or.inl bc0), if_pos (Eq.refl _)]
      · rw [if_pos a3]
  have n0 : ¬ I V < 0 := by rw [I0, I_lt (by omega) (by omega)]; omega
  have bits := r_bits (s := t) (Eq.refl (I V)) (show V < 64 by omega)
  by_cases z1 : (4 : Int32) < bc (I V)
  · refine bad ?_ ?_
    · unfold f_X11_rests
      rw [a1, bnd_t, if_neg one_ne, bc_e, if_pos z1]
    · unfold f_X12_rests
      rw [Int32.lt_iff_toInt_lt] at z1
      rw [if_neg n0, if_neg a3, bits, bnd_t, within_0 (Or.inr z1), if_pos (Eq.refl _)]
  have wi : f_X12_within (bc (I V)) 1 4 t = 1 := within_1 (by
    rw [Int32.lt_iff_toInt_lt] at z1
    have := D8 V (by omega) V1
    have i1 : (1 : Int32).toInt = 1 := by decide
    omega)
  by_cases z2 : w < -1
  · refine bad ?_ ?_
    · unfold f_X11_rests
      rw [a1, bnd_t, if_neg one_ne, bc_e, if_neg z1, if_pos z2]
    · unfold f_X12_rests
      rw [if_neg n0, if_neg a3, bits, bnd_t, wi, if_neg one_ne, if_pos z2]
  obtain ⟨s2, e1, T0, f1⟩ := r_copy R
  have W0 : ∃ W, W < 2 ^ n ∧ (sI t 101 0 0).1 145 0 = I W ∧ s2.1 64 0 = I W := by
    obtain ⟨-, b2, -⟩ := R0.2.2.1
    obtain ⟨b21, b22, b23⟩ := b2
    have pz : ((2 ^ n : Nat) : Int) = (2 : Int) ^ n := by push_cast; rfl
    refine ⟨((sI t 101 0 0).1 145 0).toInt.toNat, by omega, I_of b22, ?_⟩
    rw [f1.o (by decide), b21]; exact I_of b22
  obtain ⟨W, W2, W3, W4⟩ := W0
  obtain ⟨s', t', g1, g2, T', GG, q145, q101⟩ := r_fill T0 V2 W2 W4
  have GG' : GQ n V (W &&& (63 ^^^ V)) (V + 1) s' (sI t' 145 0 (I W)) := fun c' h1 h2 i h3 h4 => by
    rw [sI_n _ _ _ (by decide)]; exact GG c' h1 h2 i h3 h4
  have nm' : (sI t' 145 0 (I W)).1 103 2 = I n := by rw [sI_n _ _ _ (by decide)]; exact T'.2.1.nm
  have cnt := r_count w T'.1 R.2.1.1 hn.2.2 T'.2.1.nc nm' V2 W2 GG'
  have fg : f_X11_fillGains (I V) s = some s' := by
    unfold f_X11_fillGains
    rw [e1, bnd_t, g1]
  have fs : Fr L_X11_fillGains s s' := w_X11_fillGains (I V) s _ fg
  have c1 : ∀ r, f_X11_rests_l39 (I V) w (fun v3 => (if w = (-1) then some (some v3) else some none)) s' FU 0 0 = some r → f_X11_rests (I V) w s = some (r, s') := fun r hr => by
    unfold f_X11_rests
    rw [a1, bnd_t, if_neg one_ne, bc_e, if_neg z1, if_neg z2, fg, bnd_t, hr, bnd_t]
  have c2 : ∀ r, f_X12_rests_l193 (I V) w (I W) (fun v50 s51 => (if w = (-1) then ltb (sI s51 101 0 0) fun s55 => (if w = (-1) then some (v50, s55) else some (0, s55)) else ltb (sI s51 101 0 1) fun s53 => (if w = (-1) then some (v50, s53) else some (0, s53)))) FU 0 0 (sI t' 145 0 (I W)) = some r → f_X12_rests (I V) w t = some r := fun r hr => by
    unfold f_X12_rests
    rw [if_neg n0, if_neg a3, bits, bnd_t, wi, if_neg one_ne, if_neg z2]
    unfold f_X12_rests_j35
    rw [ltb_t (a := sI t 101 0 0), if_neg (by rw [sI_k]; decide), W3, ltb_t, g2, ltb_t, hr]
  have fin : ∀ r x y t2, f_X11_rests_l39 (I V) w (fun v3 => (if w = (-1) then some (some v3) else some none)) s' FU 0 0 = some r → f_X12_rests_l193 (I V) w (I W) (fun v50 s51 => (if w = (-1) then ltb (sI s51 101 0 0) fun s55 => (if w = (-1) then some (v50, s55) else some (0, s55)) else ltb (sI s51 101 0 1) fun s53 => (if w = (-1) then some (v50, s53) else some (0, s53)))) FU 0 0 (sI t' 145 0 (I W)) = some (x, t2) → t2 = sI (sI t' 145 0 (I W)) 101 0 y → ((r = none ∧ y = 1) ∨ (r = some x ∧ y = 0)) → ∃ r s' x t', f_X11_rests (I V) w s = some (r, s') ∧ f_X12_rests (I V) w t = some (x, t') ∧ Rel p d c h n s' t' ∧ ((r = none ∧ t'.1 101 0 = 1) ∨ (r = some x ∧ t'.1 101 0 = 0)) := by
    intro r x y t2 h1 h2 h3 h4
    subst h3
    refine ⟨r, s', x, _, c1 r h1, c2 _ h2, R.back (K := [(145, 0)]) (M' := L_X12_rests.filter (fun q => q.1 != 145)) fs ((w_X12_rests _ _ t _ (c2 _ h2)).mono (by decide +kernel)) (by rcases okp with rfl | rfl <;> decide +kernel) (by decide +kernel) (fun o k hk => ?_) (by decide), ?_⟩
    · have := wm1 hk
      subst this
      rw [sI_n _ _ _ (by decide), sI_s]
      by_cases z : k = 0
      · rw [if_pos z, z, ← W3, sI_n _ _ _ (by decide)]
      · rw [if_neg z, q145 k z, sI_n _ _ _ (by decide)]
    · rw [sI_k]; exact h4
  rcases cnt with ⟨z, k1, k2⟩ | ⟨m, k1, k2⟩
  · refine fin (some z) z 0 _ (k1 _) (k2 _) ?_ (Or.inr ⟨rfl, rfl⟩)
    have e : (sI t' 145 0 (I W)).1 101 0 = 0 := by rw [sI_n _ _ _ (by decide), q101, sI_k]
    exact (sI_same e).symm
  · by_cases w1 : w = -1
    · refine fin (some m) m 0 _ (by rw [k1, if_pos w1]) (by rw [k2, if_pos w1, ltb_t, if_pos w1]) (Eq.refl _) (Or.inr ⟨rfl, rfl⟩)
    · refine fin none 0 1 _ (by rw [k1, if_neg w1]) (by rw [k2, if_neg w1, ltb_t, if_neg w1]) (Eq.refl _) (Or.inl ⟨rfl, rfl⟩)
end RESTS2
