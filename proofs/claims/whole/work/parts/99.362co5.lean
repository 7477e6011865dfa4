abbrev MX12_init : ab_M := (yX12_init, cX12_init, 3, none)
theorem okX12_init : ab_okM MX12_init 0 := ⟨by decide, ⟨by decide, by decide⟩, ab_in 1845 (by decide +kernel) (by decide +kernel), ab_in 99 (by decide +kernel) (by decide +kernel), by decide +kernel, by decide⟩
