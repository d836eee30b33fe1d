section
theorem zz_try : 1 + 1 = 2 := rfl
end
