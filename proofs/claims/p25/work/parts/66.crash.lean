theorem xcons_at {x : Nat × va_E} {ws : va_W} {j : Nat} {e : Nat × va_E} (h : ws[j]? = some e) : ∃ k : Nat, (x :: ws)[k]? = some e := ⟨j + 1, h⟩
