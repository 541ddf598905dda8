/-! no trees -/
