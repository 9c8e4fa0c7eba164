theorem zw300 : (.selects RX5 yX5_tenFrom yX5_tenFrom : Cond) ∈ zG := zin 44 (by decide +kernel) (by decide +kernel)
theorem zw301 : (.code yX5_tenFrom cX5_tenFrom 5 (some .int) : Cond) ∈ zG := zin6 17 (by decide +kernel) (by decide +kernel)

