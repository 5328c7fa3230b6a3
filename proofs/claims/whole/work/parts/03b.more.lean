theorem gm_n {α β : Type} {x : Option β} {k : α → Option β} {z : β} (h : gm (none : Option α) x k = some z) : x = some z := h
theorem gm_s {α β : Type} {a : α} {x : Option β} {k : α → Option β} {z : β} (h : gm (some a) x k = some z) : k a = some z := h
