/-! Handlers: this law has none. -/
theorem hnd_none (m pc x : Nat) : hnd m pc x = none := rfl
