/-! rests -/
def f_X11_rests_l39b (v1 v2 v3 v4 : Int32) (k39 : Int32 → Int32 → Option (Option Int32)) (k81 : Int32 → Option (Option Int32)) (s : HS) : Option (Option Int32) :=
  (if v1 < v4 then k81 v3 else (if (v4 &&& (v1 ^^^ ((-1) : Int32))) = 0 then bnd (f_X11_isAtRest v1 v4 s) fun y => (if y = 0 then ltb (v4 + 1) fun x => k39 v3 x else (if v3 = v2 then some (some v4) else ltb (v3 + 1) fun x3 => ltb (v4 + 1) fun x4 => k39 x3 x4)) else ltb (v4 + 1) fun x => k39 v3 x))
def f_X11_rests_l39 (v1 v2 : Int32) (k81 : Int32 → Option (Option Int32)) (s : HS) : Nat → Int32 → Int32 → Option (Option Int32)
  | 0, _, _ => none
  | n + 1, v3, v4 => f_X11_rests_l39b v1 v2 v3 v4 (f_X11_rests_l39 v1 v2 k81 s n) k81 s
/-- TeaJunction.rests: its answer, or none where it throws -/
def f_X11_rests (v1 v2 : Int32) (s : HS) : Option (Option Int32 × HS) :=
  bnd (f_X11_isSome v1 s) fun y => (if y = 0 then some (none, s) else (if 4 < f_J6_bitCount_0f7a4 v1 s then some (none, s) else (if v2 < (-1) then some (none, s) else bnd (f_X11_fillGains v1 s) fun s1 => bnd (f_X11_rests_l39 v1 v2 (fun v3 => (if v2 = (-1) then some (some v3) else some none)) s1 FU 0 0) fun r => some (r, s1))))
theorem D1 : ∀ c, c < 64 → ∀ V, V < 64 → (c &&& (63 ^^^ V) = 0 ↔ c &&& V = c) := by decide +kernel
theorem D2 : ∀ W, W < 64 → ∀ V, V < 64 → (W &&& (63 ^^^ V)) &&& V = 0 ∧ (W &&& (63 ^^^ V)) &&& (63 ^^^ V) = W &&& (63 ^^^ V) := by decide +kernel
theorem D3 : ∀ X, X < 64 → ∀ V, V < 64 → (X &&& (63 ^^^ V)) ||| (X &&& V) = X ∧ (X &&& V) &&& V = X &&& V := by decide +kernel
theorem D4 : ∀ a, a < 64 → ∀ b, b < 64 → a &&& b = 0 → a ||| b = a + b := by decide +kernel
theorem D5 : ∀ c, c < 64 → ∀ i, i < 6 → I c ^^^ ((1 : Int32) <<< (I i &&& 31)) = I (c ^^^ 2 ^ i) ∧ c ^^^ 2 ^ i < 64 := by decide +kernel
theorem D6 : ∀ c, c < 64 → ∀ V, V < 64 → I c &&& I V = I (c &&& V) := by decide +kernel
theorem D7 : ∀ a, a < 64 → ∀ b, b < 64 → I a ||| I b = I (a ||| b) := by decide +kernel
theorem D8 : ∀ V, V < 64 → 1 ≤ V → 1 ≤ (bc (I V)).toInt := by decide +kernel
section RESTS
variable {p d c h n : Nat} {s t : HS}
theorem TRL.fr {s' t' : HS} {L M : List (Nat × Nat)} (T : TRL p c h n s t) (f : Fr L s s') (g : Fr M t t') (h1 : av1 p L = true ∧ wo L 28 = false ∧ wo L 29 = false ∧ wm L 0 1 = false) (h2 : av2 M = true ∧ wo M 145 = false ∧ wo M 103 = false ∧ av4 M = true ∧ wo M 101 = false) : TRL p c h n s' t' := by
  obtain ⟨q, P, A, O, D⟩ := T
  refine ⟨by rw [f.2.2.1 h1.2.2.2]; exact q, P.fr f g h1.1 h2.1, A.fr f g ⟨h1.2.1, h1.2.2.1⟩ ⟨h2.2.1, h2.2.2.1⟩, O.fr P.1 f g h1.1 h2.2.2.2.1, ?_⟩
  unfold IDLE
  rw [g.o h2.2.2.2.2]; exact D
theorem I_6 {c i : Nat} : I c * (6 : Int32) + I i = I (6 * c + i) := by
  rw [show (6 : Int32) = I 6 from litI 6, I_mul, I_add, Nat.mul_comm]
theorem I_6' {c i : Nat} : (6 : Int32) * I c + I i = I (6 * c + i) := by
  rw [show (6 : Int32) = I 6 from litI 6, I_mul, I_add]
def gain (c i : Nat) (s : HS) : Int32 := ((10 * bc (s.1 78 i)) - (3 * (((I c) >>> (I i &&& 31)) &&& (1 : Int32)))) - (50 * (((s.1 73 15) >>> (I i &&& 31)) &&& (1 : Int32)))
theorem c_gain {c' : Nat} (P0 : PL p 0 c h n s t) (hp : s.2.2.1 = p) (hc : c' < 64) : ∀ e k, k + e = n → ∀ s1, Fr [(35, 0)] s s1 → (∀ i, i < k → s1.1 35 (6 * c' + i) = gain c' i s) → (∀ j, j < 6 * c' ∨ 6 * c' + 6 ≤ j → s1.1 35 j = s.1 35 j) → ∃ s', (∀ v1 K f, e < f → f_X11_fillGains_l52 v1 (I c') K f (I k) s1 = K s') ∧ Fr [(35, 0)] s s' ∧ (∀ i, i < n → s'.1 35 (6 * c' + i) = gain c' i s) ∧ (∀ j, j < 6 * c' ∨ 6 * c' + 6 ≤ j → s'.1 35 j = s.1 35 j) := by
  have hn := P0.n6
  have okp := okX4_c P0.1
  intro e
  induction e with
  | zero =>
    intro k hk s1 f1 g1 g2
    have hk : k = n := by omega
    subst hk
    have P : PL p 0 c h k s1 t := P0.fr (M := []) f1 Fr.refl (by rcases okp with rfl | rfl <;> decide) (by decide)
    refine ⟨s1, fun v1 K f hf => ?_, f1, g1, g2⟩
    obtain ⟨f', rfl⟩ : ∃ f', f = f' + 1 := ⟨f - 1, by omega⟩
    simp only [f_X11_fillGains_l52, f_X11_fillGains_l52b, f1.2.2.1 (by decide), hp, P.1, gd_t, P.nc, if_pos (Int32.le_refl _)]
  | succ e ih =>
    intro k hk s1 f1 g1 g2
    have P : PL p 0 c h n s1 t := P0.fr (M := []) f1 Fr.refl (by rcases okp with rfl | rfl <;> decide) (by decide)
    have hk2 : ¬ I n ≤ I k := by rw [I_le (by omega) (by omega)]; omega
    have kk : (I k).toNatClampNeg = k := I_nat (by omega)
    have k6 : inb (I k) 6 = true := inb_t (by omega) (by omega)
    have k384 : inb (I (6 * c' + k)) 384 = true := inb_t (by omega) (by omega)
    have kk2 : (I (6 * c' + k)).toNatClampNeg = 6 * c' + k := I_nat (by omega)
    have eg : ((10 * bc (s1.1 78 k)) - (3 * (((I c') >>> (I k &&& 31)) &&& (1 : Int32)))) - (50 * (((s1.1 73 15) >>> (I k &&& 31)) &&& (1 : Int32))) = gain c' k s := by
      unfold gain
      rw [f1.o (by decide), f1.o (by decide)]
    obtain ⟨s', h1, h2, h3, h4⟩ := ih (k + 1) (by omega) (sI s1 35 (6 * c' + k) (gain c' k s)) (f1.trans (fr_sI (wm_all (by decide) _))) (fun i hi => by
      rw [sI_s]
      by_cases z : i = k
      · subst z; rw [if_pos (Eq.refl _)]
      · rw [if_neg (by omega)]; exact g1 i (by omega)) (fun j hj => by rw [sI_s, if_neg (by omega)]; exact g2 j hj)
    refine ⟨s', fun v1 K f hf => ?_, h2, h3, h4⟩
    obtain ⟨f', rfl⟩ : ∃ f', f = f' + 1 := ⟨f - 1, by omega⟩
    simp only [f_X11_fillGains_l52, f_X11_fillGains_l52b, f1.2.2.1 (by decide), hp, P.1, gd_t, P.nc, if_neg hk2, k6, I_6, k384, kk2, kk, bc_e, eg, ltb_t, I_succ, h1 v1 K f' (by omega)]
theorem gz : (10 * bc 0 - 3 * (0 : Int32)) - 50 * (0 : Int32) = 0 := by decide +kernel
def gett (n X i : Nat) (t : HS) : Int32 := if ((I X) >>> (I i &&& 31)) &&& (1 : Int32) = 0 then 0 else if i < n then ((10 * bc (t.1 152 i)) - 3) - (50 * (t.1 154 i)) else 0
theorem m_gets {X : Nat} (P0 : PL p 0 c h n s t) (RD : ∀ i, i < n → RSd i s t) (hX : X < 64) (v1 v2 v3 : Int32) : ∀ e k, k + e = 6 → ∀ t1, Fr [(157, 0)] t t1 → (∀ i, i < k → t1.1 157 (6 * X + i) = gett n X i t) → (∀ j, j < 6 * X ∨ 6 * X + 6 ≤ j → t1.1 157 j = t.1 157 j) → ∃ t', (∀ K f, e < f → f_X12_rests_l99 v1 v2 v3 (I X) K f (I k) t1 = K t') ∧ Fr [(157, 0)] t t' ∧ (∀ i, i < 6 → t'.1 157 (6 * X + i) = gett n X i t) ∧ (∀ j, j < 6 * X ∨ 6 * X + 6 ≤ j → t'.1 157 j = t.1 157 j) := by
  have hn := P0.n6
  have okp := okX4_c P0.1
  intro e
  induction e with
  | zero =>
    intro k hk t1 f1 g1 g2
    have hk : k = 6 := by omega
    subst hk
    refine ⟨t1, fun K f hf => ?_, f1, g1, g2⟩
    obtain ⟨f', rfl⟩ : ∃ f', f = f' + 1 := ⟨f - 1, by omega⟩
    simp only [f_X12_rests_l99, f_X12_rests_l99b]
    exact if_pos (by decide)
  | succ e ih =>
    intro k hk t1 f1 g1 g2
    have P : PL p 0 c h n s t1 := P0.fr (L := []) Fr.refl f1 (by rcases okp with rfl | rfl <;> decide) (by decide)
    have h6 : ¬ (6 : Int32) ≤ I k := by rw [show (6 : Int32) = I 6 from litI 6, I_le (by omega) (by omega)]; omega
    have kk : (I k).toNatClampNeg = k := I_nat (by omega)
    have k6 : inb (I k) 6 = true := inb_t (by omega) (by omega)
    have k384 : inb (I (6 * X + k)) 384 = true := inb_t (by omega) (by omega)
    have kk2 : (I (6 * X + k)).toNatClampNeg = 6 * X + k := I_nat (by omega)
    obtain ⟨t', h1, h2, h3, h4⟩ := ih (k + 1) (by omega) (sI t1 157 (6 * X + k) (gett n X k t)) (f1.trans (fr_sI (wm_all (by decide) _))) (fun i hi => by
      rw [sI_s]
      by_cases z : i = k
      · subst z; rw [if_pos (Eq.refl _)]
      · rw [if_neg (by omega)]; exact g1 i (by omega)) (fun j hj => by rw [sI_s, if_neg (by omega)]; exact g2 j hj)
    refine ⟨t', fun K f hf => ?_, h2, h3, h4⟩
    obtain ⟨f', rfl⟩ : ∃ f', f = f' + 1 := ⟨f - 1, by omega⟩
    by_cases z : ((I X) >>> (I k &&& 31)) &&& (1 : Int32) = 0
    · have eg : gett n X k t = 0 := by unfold gett; rw [if_pos z]
      rw [eg] at h1
      simp only [f_X12_rests_l99, f_X12_rests_l99b, if_neg h6, if_pos z, I_6', k384, gd_t, kk2, ltb_t, I_succ, h1 K f' (by omega)]
    · have nn : ¬ I k < 0 := by rw [I0, I_lt (by omega) (by omega)]; omega
      by_cases y : k < n
      · have eg : gett n X k t = ((10 * bc (t.1 152 k)) - 3) - (50 * (t.1 154 k)) := by unfold gett; rw [if_neg z, if_pos y]
        have ib : f_X12_isBuyer (I k) t1 = 1 := by
          unfold f_X12_isBuyer
          rw [if_neg nn, P.nm, if_neg (by rw [I_le (by omega) (by omega)]; omega)]
        obtain ⟨⟨-, u2, u3⟩, -⟩ := RD k y
        have o152 : t1.1 152 = t.1 152 := f1.o (by decide)
        have o154 : t1.1 154 = t.1 154 := f1.o (by decide)
        have hb : f_X12_bits (t.1 152 k) t1 = some (bc (t.1 152 k)) := r_bits (I_of u2) (by omega)
        rw [eg] at h1
        simp only [f_X12_rests_l99, f_X12_rests_l99b, if_neg h6, if_neg z, ib, if_neg one_ne, k6, gd_t, kk, o152, hb, bnd_t, o154, I_6', k384, kk2, ltb_t, I_succ, h1 K f' (by omega)]
      · have eg : gett n X k t = 0 := by unfold gett; rw [if_neg z, if_neg y]
        have ib : f_X12_isBuyer (I k) t1 = 0 := by
          unfold f_X12_isBuyer
          rw [if_neg nn, P.nm, if_pos (by rw [I_le (by omega) (by omega)]; omega)]
        rw [eg] at h1
        simp only [f_X12_rests_l99, f_X12_rests_l99b, if_neg h6, if_neg z, ib, if_true, I_6', k384, gd_t, kk2, ltb_t, I_succ, h1 K f' (by omega)]
/-- all gains of the choices below C agree -/
def GQ (n V B C : Nat) (s t : HS) : Prop := ∀ c', c' < C → c' &&& V = c' → ∀ i, i < n → V.testBit i = true → s.1 35 (6 * c' + i) = t.1 157 (6 * (B ||| c') + i)
theorem r_gain {V B c' : Nat} (hB : B &&& V = 0) (hB6 : B < 64) (hc : c' < 64) (hsub : c' &&& V = c') (RD : ∀ i, i < n → RSd i s t) (hn : n ≤ 6) (hx : t.1 145 0 = I (B ||| c')) {i : Nat} (hi : i < n) (hv : V.testBit i = true) : gain c' i s = gett n (B ||| c') i t := by
  obtain ⟨⟨e1, -, -⟩, -, e3, e4, -⟩ := RD i hi
  have hb : B.testBit i = false := by
    have := congrArg (fun x => x.testBit i) hB
    simp only [Nat.testBit_and, hv, Bool.and_true, Nat.zero_testBit] at this
    exact this
  have or64 : B ||| c' < 64 := Nat.or_lt_two_pow (n := 6) (by omega) (by omega)
  have tb : (B ||| c').testBit i = c'.testBit i := by rw [Nat.testBit_or, hb, Bool.false_or]
  unfold gain gett
  rw [bitb c' hc i (by omega), bitb _ or64 i (by omega), tb, e1, e3]
  cases q : c'.testBit i with
  | true => rw [if_pos (Eq.refl _), if_neg one_ne, if_pos hi]; rfl
  | false =>
    have no : ¬ OUTi i t := by
      unfold OUTi
      rw [hx, bitb _ or64 i (by omega), tb, q]
      exact fun w => w (by decide)
    obtain ⟨w1, w2⟩ := e4 no
    rw [w1, w2, if_neg (by decide), if_pos (Eq.refl _)]
    exact gz
/-- the gains are filled in, of both -/
theorem r_fill (T0 : TRL p c h n s t) {V W : Nat} (hV : V < 2 ^ n) (hW : W < 2 ^ n) (h64 : s.1 64 0 = I W) :
    ∃ s' t', f_X11_fillGains_l13 (I V) FU 0 s = some s' ∧ (∀ v2 K, f_X12_rests_l58 (I V) v2 (I W) K FU 0 t = K t') ∧ TRL p c h n s' t' ∧ GQ n V (W &&& (63 ^^^ V)) (V + 1) s' t' ∧ ((∀ q, q ≠ 0 → t'.1 145 q = t.1 145 q) ∧ t'.1 101 0 = t.1 101 0) := by
  have hn := T0.2.1.n6
  have okp := okX4_c T0.2.1.1
  have p64 : 2 ^ n ≤ 64 := (Nat.pow_le_pow_right (by omega) hn.2.2 : 2 ^ n ≤ 2 ^ 6)
  have p1 : 1 ≤ 2 ^ n := Nat.one_le_two_pow
  have pz : ((2 ^ n : Nat) : Int) = (2 : Int) ^ n := by push_cast; rfl
  generalize hBe : W &&& (63 ^^^ V) = B
  obtain ⟨b1, b2⟩ := D2 W (by omega) V (by omega)
  rw [hBe] at b1 b2
  have Bn : B < 2 ^ n := by rw [← hBe]; exact Nat.lt_of_le_of_lt Nat.and_le_left hW
  have disj : ∀ c', c' &&& V = c' → B &&& c' = 0 := fun c' hc => by
    rw [← hc, Nat.and_comm c' V, ← Nat.and_assoc, b1, Nat.zero_and]
  have cle : ∀ c', c' &&& V = c' → c' ≤ V := fun c' hc => by rw [← hc]; exact Nat.and_le_right
  have orS : ∀ c', c' < 64 → c' &&& V = c' → B ||| c' = B + c' := fun c' h1 h2 => D4 B (by omega) c' h1 (disj c' h2)
  have orL : ∀ c', c' < V + 1 → B ||| c' < 2 ^ n := fun c' h1 => Nat.or_lt_two_pow Bn (by omega)
  have key := lock (σ := HS) (τ := HS) (V + 1) (2 ^ n) (fun c' => c' &&& V = c') (fun X => X &&& (63 ^^^ V) = B) (fun c' => B ||| c')
    (fun c' x X y => ∃ s' t', (∀ f, V + 1 - c' < f → f_X11_fillGains_l13 (I V) f (I c') x = some s') ∧ (∀ v2 K f, 2 ^ n - X < f → f_X12_rests_l58 (I V) v2 (I W) K f (I X) y = K t') ∧ TRL p c h n s' t' ∧ GQ n V B (V + 1) s' t' ∧ ((∀ q, q ≠ 0 → t'.1 145 q = t.1 145 q) ∧ t'.1 101 0 = t.1 101 0))
    (fun c' x y => TRL p c h n x y ∧ x.1 64 0 = I W ∧ GQ n V B c' x y ∧ (∀ q, q ≠ 0 → y.1 145 q = t.1 145 q) ∧ y.1 101 0 = t.1 101 0)
    (fun c' hc sb => ⟨orL c' hc, ?_⟩) (fun X hX mX => ?_) (fun c1 c2 h1 h2 s1 s2 => ?_) ?_ ?_ ?_ ?_ ?_ (V + 1 + 2 ^ n) 0 s 0 t (by omega) (by omega) (by omega) (fun c' _ _ => ⟨fun _ => Nat.zero_le _, fun _ => Nat.zero_le _⟩) ⟨T0, h64, fun c' hc => by omega, fun _ _ => rfl, rfl⟩
  · obtain ⟨s', t', g1, g2, g3, g4, g5⟩ := key
    have g1 := g1 FU (FU_lt (by omega))
    rw [I_e0] at g1
    refine ⟨s', t', g1, fun v2 K => ?_, g3, g4, g5⟩
    have := g2 v2 K FU (FU_lt (by omega))
    rw [I_e0] at this
    exact this
  · show (B ||| c') &&& (63 ^^^ V) = B
    rw [Nat.and_or_distrib_right, b2, (D1 c' (by omega) V (by omega)).mpr sb, Nat.or_zero]
  · obtain ⟨d1, d2⟩ := D3 X (by omega) V (by omega)
    refine ⟨X &&& V, Nat.lt_succ_of_le Nat.and_le_right, d2, ?_⟩
    show B ||| (X &&& V) = X
    rw [← mX]; exact d1
  · show c1 ≤ c2 ↔ B ||| c1 ≤ B ||| c2
    rw [orS c1 (by omega) s1, orS c2 (by omega) s2]; omega
  · -- no choice of these
    intro c' x X y hc nb hQ hG
    obtain ⟨s', t', g1, g2, g3⟩ := hG
    refine ⟨s', t', fun f hf => ?_, g2, g3⟩
    obtain ⟨f', rfl⟩ : ∃ f', f = f' + 1 := ⟨f - 1, by omega⟩
    have h1 : ¬ I V < I c' := by rw [I_lt (by omega) (by omega)]; omega
    have h2 : ¬ (I c' &&& (I V ^^^ (-1 : Int32))) = 0 := by
      rw [andn c' (by omega) V (by omega), I0, I_inj (by have : c' &&& (63 ^^^ V) ≤ c' := Nat.and_le_left; omega) (by omega), D1 c' (by omega) V (by omega)]; exact nb
    simp only [f_X11_fillGains_l13, f_X11_fillGains_l13b, if_neg h1, if_neg h2, ltb_t, I_succ, g1 f' (by omega)]
  · intro c' x y hc nb hQ
    refine ⟨hQ.1, hQ.2.1, fun c2 h1 h2 => ?_, hQ.2.2.2⟩
    have : c2 ≠ c' := fun e => nb (e ▸ h2)
    exact hQ.2.2.1 c2 (by omega) h2
  · intro c' x X y hX nb hQ hG
    obtain ⟨s', t', g1, g2, g3⟩ := hG
    refine ⟨s', t', g1, fun v2 K f hf => ?_, g3⟩
    obtain ⟨f', rfl⟩ : ∃ f', f = f' + 1 := ⟨f - 1, by omega⟩
    have all : f_X12_allBuyers y = I (2 ^ n - 1) := by
      unfold f_X12_allBuyers
      rw [hQ.1.2.1.nm, sh1 n hn.2.2, show (1 : Int32) = I 1 from litI 1, I_sub p1]
    have h1 : ¬ I (2 ^ n - 1) < I X := by rw [I_lt (by omega) (by omega)]; omega
    have h2 : ¬ (I X &&& (I V ^^^ (-1 : Int32))) = (I W &&& (I V ^^^ (-1 : Int32))) := by
      rw [andn X (by omega) V (by omega), andn W (by omega) V (by omega), hBe, I_inj (by have : X &&& (63 ^^^ V) ≤ X := Nat.and_le_left; omega) (by omega)]; exact nb
    simp only [f_X12_rests_l58, f_X12_rests_l58b, all, if_neg h1, if_neg h2, ltb_t, I_succ, g2 v2 K f' (by omega)]
  · -- both
    intro c' x y hc sb hQ hG
    obtain ⟨T, q64, GG, q145, q101⟩ := hQ
    have oL := orL c' hc
    have h1 : ¬ I V < I c' := by rw [I_lt (by omega) (by omega)]; omega
    have h2 : (I c' &&& (I V ^^^ (-1 : Int32))) = 0 := by
      rw [andn c' (by omega) V (by omega), (D1 c' (by omega) V (by omega)).mpr sb, I_e0]
    have outE : (I W &&& (I V ^^^ (-1 : Int32))) ||| I c' = I (B ||| c') := by
      rw [andn W (by omega) V (by omega), hBe, D7 B (by omega) c' (by omega)]
    have all : f_X12_allBuyers y = I (2 ^ n - 1) := by
      unfold f_X12_allBuyers
      rw [T.2.1.nm, sh1 n hn.2.2, show (1 : Int32) = I 1 from litI 1, I_sub p1]
    have h3 : ¬ I (2 ^ n - 1) < I (B ||| c') := by rw [I_lt (by omega) (by omega)]; omega
    have h4 : (I (B ||| c') &&& (I V ^^^ (-1 : Int32))) = (I W &&& (I V ^^^ (-1 : Int32))) := by
      rw [andn _ (by omega) V (by omega), andn W (by omega) V (by omega), hBe, Nat.and_or_distrib_right, b2, (D1 c' (by omega) V (by omega)).mpr sb, Nat.or_zero]
    obtain ⟨s3, t3, d1, d2, d3, d4, d5, d6, d7, d8⟩ := r_pT (T.out (v := I (B ||| c')) (by rw [I_toInt (by omega)]; omega))
    have x145 : t3.1 145 0 = I (B ||| c') := by rw [d6, sI_k]
    obtain ⟨s4, k1, k2, k3, k4⟩ := c_gain (c' := c') d5.2.1 d5.1 (by omega) n 0 (by omega) s3 Fr.refl (fun i hi => by omega) (fun _ _ => rfl)
    obtain ⟨t4, l1, l2, l3, l4⟩ := m_gets (X := B ||| c') d5.2.1 d4.2.1 (by omega) (I V) 0 (I W) 6 0 (by omega) t3 Fr.refl (fun i hi => by omega) (fun _ _ => rfl)
    have T4 : TRL p c h n s4 t4 := d5.fr k2 l2 ⟨by rcases okp with rfl | rfl <;> decide, by decide, by decide, by decide⟩ ⟨by decide, by decide, by decide, by decide, by decide⟩
    have GG4 : GQ n V B (c' + 1) s4 t4 := by
      intro c2 e1 e2 i hi hv
      by_cases z : c2 = c'
      · subst z
        rw [k3 i hi, l3 i (by omega)]
        exact r_gain b1 (by omega) (by omega) sb d4.2.1 hn.2.2 x145 hi hv
      · have ne : B ||| c2 ≠ B ||| c' := by rw [orS c2 (by omega) e2, orS c' (by omega) sb]; omega
        rw [k4 (6 * c2 + i) (by omega), l4 (6 * (B ||| c2) + i) (by omega), d7.o (by decide +kernel), d8.o (by decide +kernel), sI_n _ _ _ (by decide), sI_n _ _ _ (by decide)]
        exact GG c2 (by omega) e2 i hi hv
    have q64' : s4.1 64 0 = I W := by rw [k2.o (by decide), d7.o (by decide +kernel), sI_n _ _ _ (by decide)]; exact q64
    obtain ⟨s', t', g1, g2, g3⟩ := hG s4 t4 ⟨T4, q64', GG4, fun q hq => by rw [l2.o (by decide), d6, sI_s, if_neg hq]; exact q145 q hq, by rw [l2.o (by decide), d8.1 101 0 (by decide +kernel), sI_n _ _ _ (by decide)]; exact q101⟩
    refine ⟨s', t', fun f hf => ?_, fun v2 K f hf => ?_, g3⟩
    · obtain ⟨f', rfl⟩ : ∃ f', f = f' + 1 := ⟨f - 1, by omega⟩
      have k1' : ∀ v1 K, f_X11_fillGains_l52 v1 (I c') K FU 0 s3 = K s4 := fun v1 K => by rw [I0]; exact k1 v1 K FU (FU_lt (by omega))
      simp only [f_X11_fillGains_l13, f_X11_fillGains_l13b, if_neg h1, if_pos h2, q64, outE, ltb_t, d1, bnd_t, k1', I_succ, g1 f' (by omega)]
    · obtain ⟨f', rfl⟩ : ∃ f', f = f' + 1 := ⟨f - 1, by omega⟩
      obtain ⟨t4', m1, m2, m3, m4⟩ := m_gets (X := B ||| c') d5.2.1 d4.2.1 (by omega) (I V) v2 (I W) 6 0 (by omega) t3 Fr.refl (fun i hi => by omega) (fun _ _ => rfl)
      have same : t4' = t4 := by
        have e1 := l1 (fun u => some ((0 : Int32), u)) FU (FU_lt (by omega))
        have e2 := m1 (fun u => some ((0 : Int32), u)) FU (FU_lt (by omega))
        have ee : ∀ f k u (K : HS → Option (Int32 × HS)), f_X12_rests_l99 (I V) v2 (I W) (I (B ||| c')) K f k u = f_X12_rests_l99 (I V) 0 (I W) (I (B ||| c')) K f k u := by
          intro f
          induction f with
          | zero => intro k u K; rfl
          | succ f ih =>
            intro k u K
            have : f_X12_rests_l99 (I V) v2 (I W) (I (B ||| c')) K f = f_X12_rests_l99 (I V) 0 (I W) (I (B ||| c')) K f := funext fun k => funext fun u => ih k u K
            show f_X12_rests_l99b (I V) v2 (I W) (I (B ||| c')) k (f_X12_rests_l99 (I V) v2 (I W) (I (B ||| c')) K f) K u = f_X12_rests_l99b (I V) 0 (I W) (I (B ||| c')) k (f_X12_rests_l99 (I V) 0 (I W) (I (B ||| c')) K f) K u
            rw [this]; rfl
        rw [ee, e1] at e2
        exact (congrArg Prod.snd (Option.some.inj e2)).symm
      subst same
      have m1' : ∀ K, f_X12_rests_l99 (I V) v2 (I W) (I (B ||| c')) K FU 0 t3 = K t4' := fun K => by rw [I0]; exact m1 K FU (FU_lt (by omega))
      simp only [f_X12_rests_l58, f_X12_rests_l58b, all, if_neg h3, if_pos h4, ltb_t, d2, bnd_t, m1', I_succ]
      exact g2 v2 K f' (by omega)
  · -- the end
    intro x y hQ
    refine ⟨x, y, fun f hf => ?_, fun v2 K f hf => ?_, hQ.1, hQ.2.2.1, hQ.2.2.2⟩
    · obtain ⟨f', rfl⟩ : ∃ f', f = f' + 1 := ⟨f - 1, by omega⟩
      have h1 : I V < I (V + 1) := by rw [I_lt (by omega) (by omega)]; omega
      simp only [f_X11_fillGains_l13, f_X11_fillGains_l13b, if_pos h1]
    · obtain ⟨f', rfl⟩ : ∃ f', f = f' + 1 := ⟨f - 1, by omega⟩
      have all : f_X12_allBuyers y = I (2 ^ n - 1) := by
        unfold f_X12_allBuyers
        rw [hQ.1.2.1.nm, sh1 n hn.2.2, show (1 : Int32) = I 1 from litI 1, I_sub p1]
      have h3 : I (2 ^ n - 1) < I (2 ^ n) := by rw [I_lt (by omega) (by omega)]; omega
      simp only [f_X12_rests_l58, f_X12_rests_l58b, all, if_pos h3]
end RESTS
