/-! PURE: text, a law: what waits is settled -/
def AL100 (st : List Nat) : Prop := ∀ z ∈ st, z < 100
theorem AL_end {P : List Nat} {z : Nat} (h : AL100 P) (hz : z < 100) : AL100 (P ++ [z]) := fun q hq => by
  rcases List.mem_append.mp hq with c | c
  · exact h q c
  · rw [List.mem_singleton.mp c]; exact hz
theorem AL_front {P : List Nat} {z : Nat} (h : AL100 (P ++ [z])) : AL100 P := fun q hq => h q (List.mem_append.mpr (Or.inl hq))
set_option maxHeartbeats 400000 in
theorem w_set0 {ts : Nat → Nat} {n a j cd o x : Nat} {U0 B0 Ub Bb U B : Bk} {t : Tok} {s st : List Nat} (hE : WE ts n U0 B0) (h : WS ts n U0 B0 Ub Bb a U B t j cd s o st) (hx : x < 100) (h40 : st.length ≤ 40) (h100 : AL100 st) (hn : NE x st) {β : Type} (K : Int32 → MM β) : bd (gX11_settles (nI x)) K B = K 0 B := by
  refine bd_some ?_
  rw [lse_eq, show (100000 : Nat) = 99999 + 1 from rfl, loopC_s]
  exact se_no hE h hx h40 h100 hn _
set_option maxHeartbeats 400000 in
theorem w_set1 {ts : Nat → Nat} {n a cd o x : Nat} {U0 B0 Ub Bb U B : Bk} {t : Tok} {s s' P : List Nat} {c : Int32} (hE : WE ts n U0 B0) (h : WS ts n U0 B0 Ub Bb a U B t 0 cd s o (P ++ [x])) (hx : x = 10 ∨ x = 11) (h40 : P.length < 40) (h100 : AL100 P) (hn : NE x P) (hc : cd < 400) (hr : RCode c (nI x) 0) (ht : tcs c s = some s') : ∃ U' B', (∀ {β : Type} (K : Int32 → MM β), bd (lf rh17 7 (gX2_put c)) K U = K 0 U') ∧ (∀ {β : Type} (K : Int32 → MM β), bd (gX11_settles (nI x)) K B = K 0 B') ∧ WS ts n U0 B0 Ub Bb a U' B' t 0 (cd + 1) s' o P := by
  obtain ⟨U', B', g1, f1, h1⟩ := w_put hE (w_pop hE h) hc hr ht
  refine ⟨U', B', g1, fun K => bd_some ?_, h1⟩
  have n9 : ¬ nI x = (9 : Int32) := fun z => by have := (nI_eq (b := 9) (by omega) (by omega)).mp z; omega
  rw [lse_eq, show (100000 : Nat) = 99998 + 1 + 1 from rfl, loopC_s, se_yes hE h h40, f1, if_neg n9, loopC_s]
  exact se_no hE h1 (by omega) (by omega) h100 hn _
def nines (P : List Nat) : Nat → List Nat
  | 0 => P
  | m + 1 => nines P m ++ [9]
theorem nines_len (P : List Nat) : ∀ m, (nines P m).length = P.length + m
  | 0 => rfl
  | m + 1 => by
    show (nines P m ++ [9]).length = _
    rw [ln_end, nines_len P m]; omega
theorem nines_AL {P : List Nat} : ∀ {m}, AL100 (nines P m) → AL100 P
  | 0, h => h
  | m + 1, h => nines_AL (m := m) (AL_front h)
theorem nines_AL' {P : List Nat} (h : AL100 P) : ∀ m, AL100 (nines P m)
  | 0 => h
  | m + 1 => AL_end (nines_AL' h m) (by decide)
set_option maxHeartbeats 400000 in
theorem w_set9 {ts : Nat → Nat} {n a cd : Nat} {U0 B0 Ub Bb U : Bk} {t : Tok} {s P : List Nat} (hE : WE ts n U0 B0) (h100 : AL100 P) (hn : NE 9 P) : ∀ m {j o N : Nat} {B : Bk}, WS ts n U0 B0 Ub Bb a U B t j cd s o (nines P m) → m ≤ o → cd + j + m ≤ 400 → P.length + m ≤ 40 → m < N → ∃ B', loopC N (seB 9) () B = some (0, B') ∧ WS ts n U0 B0 Ub Bb a U B' t (j + m) cd s (o - m) P := by
  intro m
  induction m with
  | zero =>
    intro j o N B h _ _ hl hN
    obtain ⟨N, rfl⟩ : ∃ q, N = q + 1 := ⟨N - 1, by omega⟩
    exact ⟨B, by rw [loopC_s]; exact se_no (x := 9) hE h (by decide) (by show P.length ≤ 40; omega) h100 hn _, h⟩
  | succ m ih =>
    intro j o N B h ho hc hl hN
    obtain ⟨N, rfl⟩ : ∃ q, N = q + 1 := ⟨N - 1, by omega⟩
    obtain ⟨o, rfl⟩ : ∃ q, o = q + 1 := ⟨o - 1, by omega⟩
    have h' : WS ts n U0 B0 Ub Bb a U B t j cd s (o + 1) (nines P m ++ [9]) := h
    have hy := se_yes (x := 9) hE h' (by rw [nines_len]; omega) (loopC N (seB 9))
    obtain ⟨B1, f1, h1⟩ := w_ahead hE (w_pop hE h') (by omega)
    have f1' : ∀ {β : Type} (K : Int32 → MM β), bd (gX11_emits (nI 9) 0) K (up B 0 ((B 0).set 30 (nI (nines P m).length))) = K 0 B1 := fun K => f1 K
    have h2 := w_open hE h1 o
    have bl := FRR_len hE.2.2.1 h1.1.2.2.2.1
    obtain ⟨B', e1, e2⟩ := ih (N := N) h2 (by omega) (by omega) (by omega) (by omega)
    refine ⟨B', ?_, ?_⟩
    · rw [loopC_s]
      have hy' : seB 9 (loopC N (seB 9)) () B = _ := hy
      rw [hy', f1', if_pos (show nI 9 = (9 : Int32) from rfl), bd_ld _ (by omega), h1.2.2.2.1, nI_prd, bd_sv _ (by omega)]
      exact e1
    · rw [show j + (m + 1) = j + 1 + m by omega, show o + 1 - (m + 1) = o - m by omega]
      exact e2
set_option maxHeartbeats 400000 in
theorem w_settle9 {ts : Nat → Nat} {n a cd m o : Nat} {U0 B0 Ub Bb U B : Bk} {t : Tok} {s P : List Nat} (hE : WE ts n U0 B0) (h100 : AL100 P) (hn : NE 9 P) (h : WS ts n U0 B0 Ub Bb a U B t 0 cd s o (nines P m)) (ho : m ≤ o) (hc : cd + m ≤ 400) (hl : P.length + m ≤ 40) : ∃ B', (∀ {β : Type} (K : Int32 → MM β), bd (gX11_settles 9) K B = K 0 B') ∧ WS ts n U0 B0 Ub Bb a U B' t m cd s (o - m) P := by
  obtain ⟨B', e1, e2⟩ := w_set9 (N := 100000) hE h100 hn m h ho (by omega) hl (by omega)
  rw [Nat.zero_add] at e2
  exact ⟨B', fun K => bd_some e1, e2⟩
/-- the stack and the types in a condition: is an OR open, is an AND open -/
def kF (Q : List Nat) : Bool → List Nat
  | true => Q ++ [11]
  | false => Q
def kS (Q : List Nat) (hO : Bool) : Bool → List Nat
  | true => kF Q hO ++ [10]
  | false => kF Q hO
def yF (s : List Nat) : Bool → List Nat
  | true => 1 :: s
  | false => s
theorem tcs_and (s : List Nat) : tcs 10017 (1 :: 1 :: s) = some (1 :: s) := rfl
theorem tcs_or (s : List Nat) : tcs 10018 (1 :: 1 :: s) = some (1 :: s) := rfl
def cAO (c : Int32) (x : Int32) (K : Unit → MM Int32) : MM Int32 :=
  (if x = 0 then
  K ()
  else
  bd (lf rh17 7 (gX2_put c)) fun r16 =>
  K ())
def b2n (b : Bool) : Int32 := if b = true then 1 else 0
set_option maxHeartbeats 400000 in
theorem w_and {ts : Nat → Nat} {n a cd o : Nat} {U0 B0 Ub Bb U B : Bk} {t : Tok} {s Q : List Nat} {hO hA : Bool} (hE : WE ts n U0 B0) (h : WS ts n U0 B0 Ub Bb a U B t 0 cd (1 :: yF (yF s hO) hA) o (kS Q hO hA)) (hl : Q.length + 2 ≤ 40) (h100 : AL100 Q) (hn : NE 10 Q) (hc : cd + hA.toNat ≤ 400) : ∃ U' B', (∀ K : Unit → MM Int32, cAO 10017 (b2n hA) K U = K () U') ∧ (∀ {β : Type} (K : Int32 → MM β), bd (gX11_settles 10) K B = K 0 B') ∧ WS ts n U0 B0 Ub Bb a U' B' t 0 (cd + hA.toNat) (1 :: yF s hO) o (kS Q hO false) := by
  have a1 : AL100 (kF Q hO) := by
    cases hO
    · exact h100
    · exact AL_end h100 (by decide)
  have a2 : NE 10 (kF Q hO) := by
    cases hO
    · exact hn
    · exact NE_end (by decide) Q
  have a3 : (kF Q hO).length ≤ Q.length + 1 := by
    cases hO
    · exact Nat.le_succ _
    · show (Q ++ [11]).length ≤ _
      rw [ln_end]; exact Nat.le_refl _
  cases hA
  · refine ⟨U, B, fun K => ?_, fun K => w_set0 (x := 10) hE h (by decide) (by show (kF Q hO).length ≤ 40; omega) a1 a2 K, h⟩
    unfold cAO
    rw [if_pos (show b2n false = 0 from rfl)]
  · obtain ⟨U', B', g1, f1, h1⟩ := w_set1 (x := 10) (c := 10017) hE h (Or.inl rfl) (by omega) a1 a2 (show cd + 1 ≤ 400 from hc) (Or.inr (Or.inr (Or.inr (Or.inr (Or.inr (Or.inr (Or.inr (Or.inr (Or.inr (Or.inl ⟨rfl, rfl⟩)))))))))) (tcs_and _)
    refine ⟨U', B', fun K => ?_, fun K => f1 K, h1⟩
    unfold cAO
    rw [if_neg (show ¬ b2n true = 0 by decide)]
    exact g1 _
set_option maxHeartbeats 400000 in
theorem w_or {ts : Nat → Nat} {n a cd o : Nat} {U0 B0 Ub Bb U B : Bk} {t : Tok} {s Q : List Nat} {hO : Bool} (hE : WE ts n U0 B0) (h : WS ts n U0 B0 Ub Bb a U B t 0 cd (1 :: yF s hO) o (kS Q hO false)) (hl : Q.length + 2 ≤ 40) (h100 : AL100 Q) (hn : NE 11 Q) (hc : cd + hO.toNat ≤ 400) : ∃ U' B', (∀ K : Unit → MM Int32, cAO 10018 (b2n hO) K U = K () U') ∧ (∀ {β : Type} (K : Int32 → MM β), bd (gX11_settles 11) K B = K 0 B') ∧ WS ts n U0 B0 Ub Bb a U' B' t 0 (cd + hO.toNat) (1 :: s) o Q := by
  cases hO
  · refine ⟨U, B, fun K => ?_, fun K => w_set0 (x := 11) hE h (by decide) (by show Q.length ≤ 40; omega) h100 hn K, h⟩
    unfold cAO
    rw [if_pos (show b2n false = 0 from rfl)]
  · obtain ⟨U', B', g1, f1, h1⟩ := w_set1 (x := 11) (c := 10018) hE h (Or.inr rfl) (by omega) h100 hn (show cd + 1 ≤ 400 from hc) (Or.inr (Or.inr (Or.inr (Or.inr (Or.inr (Or.inr (Or.inr (Or.inr (Or.inr (Or.inr (Or.inl ⟨rfl, rfl⟩))))))))))) (tcs_or _)
    refine ⟨U', B', fun K => ?_, fun K => f1 K, h1⟩
    unfold cAO
    rw [if_neg (show ¬ b2n true = 0 by decide)]
    exact g1 _
