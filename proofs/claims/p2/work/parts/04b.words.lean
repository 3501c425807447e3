set_option maxRecDepth 100000 in
theorem z199 : wZ (.selects RX11 yX11_does yX11_does) := ⟨List.mem_append_left _ (List.mem_of_getElem? (i := 13) (by decide +kernel)), Or.inl rfl⟩
set_option maxRecDepth 100000 in
theorem z200 : wZ (.instanceMethod yX11_does) := ⟨wT6 (List.mem_of_getElem? (i := 55) (by decide +kernel)), Or.inl rfl⟩
set_option maxRecDepth 100000 in
theorem z201 : wZ (.methodLink RX11 200 yX11_does) := ⟨wT6 (List.mem_of_getElem? (i := 53) (by decide +kernel)), Or.inl rfl⟩
set_option maxRecDepth 100000 in
theorem z202 : wZ (.fieldLink RX11 127 "MotionFloorModel$Hall" "why" "I") := ⟨wT5 (List.mem_of_getElem? (i := 54) (by decide +kernel)), Or.inl rfl⟩
set_option maxRecDepth 100000 in
theorem z203 : wZ (.selects RX11 yX11_reason yX11_reason) := ⟨List.mem_append_left _ (List.mem_of_getElem? (i := 2) (by decide +kernel)), Or.inl rfl⟩
set_option maxRecDepth 100000 in
theorem z204 : wZ (.instanceMethod yX11_reason) := ⟨wT5 (List.mem_of_getElem? (i := 239) (by decide +kernel)), Or.inl rfl⟩
set_option maxRecDepth 100000 in
theorem z205 : wZ (.methodLink RX11 196 yX11_reason) := ⟨wT5 (List.mem_of_getElem? (i := 237) (by decide +kernel)), Or.inl rfl⟩
set_option maxRecDepth 100000 in
theorem z206 : wZ (.code yX11_act cX11_act 10 (some .int)) := ⟨wT5 (List.mem_of_getElem? (i := 236) rfl), Or.inl rfl⟩
set_option maxRecDepth 100000 in
theorem z207 : wZ (.code yX11_text cX11_text 4 (some .int)) := ⟨wT6 (List.mem_of_getElem? (i := 221) rfl), Or.inl rfl⟩
set_option maxRecDepth 100000 in
theorem z208 : wZ (.code yX11_begin cX11_begin 3 none) := ⟨wT5 (List.mem_of_getElem? (i := 199) rfl), Or.inl rfl⟩
