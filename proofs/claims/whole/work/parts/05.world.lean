/-! the world: 159 cells of a fixed layout; a memory gives what they hold -/
