/-- within(v, most) -/
theorem t_within {v mo : Int32} {g : am_F} {gs : List am_F} {d : Nat} {M : am_M} {Q : Option am_V → am_M → Prop} (k : ∀ r, r = (if v < 0 then 0 else if mo < v then mo else v) → am_WP (am_psh g (some (.inl r)) :: gs) (d + 1) M Q) :
    am_WP (am_entry mX8_within [.inl v, .inl mo] :: g :: gs) d M Q := by
  refine am_go 20 ?_
  refine am_if (fun h0 => ?_) (fun h0 => ?_)
  · sorry
  · sorry
