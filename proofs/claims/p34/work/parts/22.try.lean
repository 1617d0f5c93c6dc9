theorem t1 (X : am_X) (d : Nat) (a b c : Int) (w : am_W) (hb : iR b) (ha : iR a) (hc : iR c) (Q : Option AV → am_W → Prop) (h1 : b ≤ a → a ≤ c → Q (some (.inl 1)) w) (h0 : ¬ (b ≤ a ∧ a ≤ c) → Q (some (.inl 0)) w) : GO X d 146 0 [some (.inl a), some (.inl b), some (.inl c)] [] w Q := by
  refine go_if (k := 3) (p1 := 14) (p2 := 5) (L' := [some (.inl a), some (.inl b), some (.inl c)]) (st' := []) (w' := w) (fun _ => rfl) (c_lt ha hb) (fun c1 => ?_) (fun c1 => ?_)
  · exact go_ret (k := 2) (fun _ => rfl) (h0 (by omega))
  · refine go_if (k := 3) (p1 := 14) (p2 := 10) (L' := [some (.inl a), some (.inl b), some (.inl c)]) (st' := []) (w' := w) (fun _ => rfl) (c_gt ha hc) (fun c2 => ?_) (fun c2 => ?_)
    · exact go_ret (k := 2) (fun _ => rfl) (h0 (by omega))
    · exact go_ret (k := 3) (fun _ => rfl) (h1 (by omega) (by omega))
