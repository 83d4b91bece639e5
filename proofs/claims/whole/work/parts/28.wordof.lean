/-! Tokens.wordOf by hand: it goes over the signs of a String constant -/
theorem jd_X9_wordOf : yX9_wordOf.cls ≠ "java/lang/invoke/MethodHandle" ∧ yX9_wordOf.cls ≠ "java/lang/invoke/VarHandle" ∧ (parseMethodDescriptor yX9_wordOf.desc).map (fun d => d.parameters.length) = some 3 := by decide +kernel
abbrev rmX9_wordOf : Room := { frames := 8, cells := 0, slots := 0, locals := 400 }
abbrev wqX9_wordOf : List Cond := .code yX9_wordOf cX9_wordOf 7 (some .int) :: wsL_law
def fX9_wordOf_l (M : QM) (x1 x2 : Int32) : List Int32 → Int32 → Int32 → Option (Int32 × QM)
  | [], _, _ => some (32, M)
  | c :: cs, w, a => if c = 32 then (if a = x2 - x1 then some (w, M) else fX9_wordOf_l M x1 x2 cs (w + 1) 0)
    else if a < 0 then fX9_wordOf_l M x1 x2 cs w a
    else q_b (fX8_byteAt M (x1 + a)) fun r _ => fX9_wordOf_l M x1 x2 cs w (if r = c then a + 1 else -1)
def fX9_wordOf (M : QM) (x1 x2 : Int32) : Option (Int32 × QM) := fX9_wordOf_l M x1 x2 q_bytes 0 0
theorem kX9_wordOf (l : Launch) {y : Ly} (hJ : ly_J y) (hy : y.2.2.2.2 = 0) {M M1 : QM} {r : Int32} {x1 x2 : Int32} (hF : fX9_wordOf M x1 x2 = some (r, M1)) : Met l yX9_wordOf wqX9_wordOf rmX9_wordOf (q_P y [.ref (ly_o y 1), .int x1, .int x2] M) (q_E y (some (.int r)) M1) 0 0 (ly_A y) := sorry
