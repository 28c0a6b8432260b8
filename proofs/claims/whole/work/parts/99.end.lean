/-! end -/
